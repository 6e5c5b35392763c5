def m_in (X : zXS) (M : zMS) : Nat → Nat → zMS × Int32
  | 0, _ => (M, 0)
  | c + 1, i => if r_M_move X M i = 2 then (m_M_move X M i, 1) else m_in X M c (i + 1)
def m_out (X : zXS) : Nat → Nat → zMS → Int32 × zMS
  | 0, t, M => (nI t, M)
  | c + 1, t, M => if (m_in X M (M 15 0).toNatClampNeg 0).2 = 0 then (nI t, (m_in X M (M 15 0).toNatClampNeg 0).1) else m_out X c (t + 1) (m_in X M (M 15 0).toNatClampNeg 0).1
def m_most (x : Int32) : Int32 := if x < 1 then 0 else if x ≤ 64 then x else 0
def r_M_run (X : zXS) (M : zMS) (x : Int32) : Int32 := (m_out X (m_most x).toNatClampNeg 0 M).1
def m_M_run (X : zXS) (M : zMS) (x : Int32) : zMS := (m_out X (m_most x).toNatClampNeg 0 M).2
theorem m_most_nat (x : Int32) : ∃ j, j ≤ 64 ∧ m_most x = nI j := by
  unfold m_most
  split
  · exact ⟨0, by omega, rfl⟩
  · next h1 =>
    split
    · next h2 =>
      have h0 : ¬ x < 0 := by
        rw [Int32.lt_iff_toInt_lt] at h1 ⊢
        have e1 : (1 : Int32).toInt = 1 := rfl
        have e0 : (0 : Int32).toInt = 0 := rfl
        omega
      exact nI_of2 (M := 64) (n := 64) rfl h0 h2
    · exact ⟨0, by omega, rfl⟩
theorem m_move_same {X : zXS} {M : zMS} {i : Nat} (h : ¬ r_M_move X M i = 2) : m_M_move X M i = M := by
  unfold r_M_move at h
  unfold m_M_move
  split
  · split
    · next h1 h2 => rw [if_pos h1, if_pos h2] at h; exact absurd rfl h
    · rfl
  · rfl
theorem hd_M_run : y_M_run.cls ≠ "java/lang/invoke/MethodHandle" ∧ y_M_run.cls ≠ "java/lang/invoke/VarHandle" ∧ (parseMethodDescriptor y_M_run.desc).map (fun d => d.parameters.length) = some 1 := by decide +kernel
theorem m_in_G {X : zXS} {M1 : zMS} {n1 : Nat} {G : zMS → Prop} (hn1 : M1 15 0 = nI n1) (hW1 : zMsg M1 n1) (hG1 : ∀ kk, kk < n1 → r_M_move X M1 kk = 2 → G (m_M_move X M1 kk)) (hg : G M1) : G (m_in X M1 n1 0).1 := by
  have : ∀ (c i : Nat), i + c = n1 → G (m_in X M1 c i).1 := by
    intro c
    induction c with
    | zero => intro i _; exact hg
    | succ c ih =>
      intro i hi
      rw [m_in]
      split
      · next h => exact hG1 i (by omega) h
      · exact ih (i + 1) (by omega)
  exact this n1 0 (by omega)
set_option maxHeartbeats 1000000 in
set_option maxRecDepth 100000 in
theorem k_M_run (l : Launch) (dC : Nat → ClassId) (dI : Nat → Nat → Nat) (k : Nat → ClassId) (q : Nat → Nat) (X : zXS) (M : zMS) (x : Int32) (G : zMS → Prop) (hG : ∀ M1, G M1 → ∃ n1, M1 15 0 = nI n1 ∧ n1 + 8 < 200 ∧ zMsg M1 n1 ∧ ∀ kk, kk < n1 → r_M_move X M1 kk = 2 → G (m_M_move X M1 kk)) (hg0 : G M) : zMet l dC dI k q y_M_run c_M_run 6 (some .int) 4 110 [.ref (q 37), .int x] (some (.int (r_M_run X M x))) X M X (m_M_run X M x) := by
  refine zMet.of (by decide) (Nat.le_of_ble_eq_true rfl) ?_
  intro p e s m args below meth c ls C hr hk hl h
  have hx := C.1
  have hb := C.2.1
  have hl : lv_has ls 6 [(0, .ref (q 37)), (1, .int x)] := hl
  have inner : ∀ (M1 : zMS) (n1 : Nat) (tk mo : Int32), M1 15 0 = nI n1 → n1 + 8 < 200 → zMsg M1 n1 → (∀ (ls : Array Slot) (H : Heap) (locs : List Loc), lv_has ls 6 [(4, .int ((m_in X M1 n1 0).2)), (3, .int tk), (2, .int mo), (0, .ref (q 37)), (1, .int x)] → zH dC dI k q X (m_in X M1 n1 0).1 (zA q) s.heap H locs → W p l e { frames := 4, cells := 0, slots := 0, locals := 110 } s m args below meth c H locs 0 0 (MQ below (zQc dC dI k q X (m_M_run X M x) (some (.int (r_M_run X M x)))) args s 0 0 (zA q)) (F0 m 75 ls [])) → ∀ (c0 i : Nat) (ls : Array Slot) (H : Heap) (locs : List Loc), i + c0 = n1 → (m_in X M1 n1 0) = m_in X M1 c0 i → lv_has ls 6 [(5, .int (nI i)), (4, .int 0), (3, .int tk), (2, .int mo), (0, .ref (q 37)), (1, .int x)] → zH dC dI k q X M1 (zA q) s.heap H locs → W p l e { frames := 4, cells := 0, slots := 0, locals := 110 } s m args below meth c H locs 0 0 (MQ below (zQc dC dI k q X (m_M_run X M x) (some (.int (r_M_run X M x)))) args s 0 0 (zA q)) (F0 m 38 ls []) := by
    intro M1 n1 tk mo hn1 hb1 hW1 K c0
    induction c0 with
    | zero =>
      intro i ls H locs hi hres hl h
      refine lv_iload hx hb d_M_run_38 (lv_at hl 0 rfl) ?_
      refine lv_aload_n hx hb d_M_run_40 rfl (lv_at hl 4 rfl) ?_
      refine g_M_81 C h d_M_run_41 ?_
      refine lv_icmp_ge (tgt := 75) hx hb d_M_run_44 (by decide) (fun hh1 => ?_) (fun hh1 => absurd (by rw [hn1]; exact nI_le (by omega) (by omega)) hh1)
      have e9 : (m_in X M1 n1 0) = (M1, 0) := (by rw [hres, m_in])
      exact K _ _ _ (by rw [e9]; exact lv_sub hl [1, 2, 3, 4, 5] rfl) (by rw [e9]; exact h)
    | succ c0 ih =>
      intro i ls H locs hi hres hl h
      refine lv_iload hx hb d_M_run_38 (lv_at hl 0 rfl) ?_
      refine lv_aload_n hx hb d_M_run_40 rfl (lv_at hl 4 rfl) ?_
      refine g_M_81 C h d_M_run_41 ?_
      refine lv_icmp_ge (tgt := 75) hx hb d_M_run_44 (by decide) (fun hh2 => absurd hh2 (by rw [hn1]; exact nI_ge (by omega) (by omega))) (fun hh2 => ?_)
      refine lv_iload hx hb d_M_run_47 (lv_at hl 1 rfl) ?_
      refine lv_if_ne (tgt := 75) hx hb d_M_run_49 (by decide) (fun hh3 => absurd (by decide) hh3) (fun _ => ?_)
      refine lv_aload_n hx hb d_M_run_52 rfl (lv_at hl 4 rfl) ?_
      refine lv_iload hx hb d_M_run_53 (lv_at hl 0 rfl) ?_
      refine z_callV (i := 37) C h (k_M_move l dC dI k q X M1 i n1 hn1 hb1 (by omega) (hW1 i (by omega)).1 (hW1 i (by omega)).2.1 (hW1 i (by omega)).2.2) co_M_move ml_M_146 im_M_move se_M_move in_M rfl rfl hd_M_move ⟨by decide, by decide⟩ ⟨Nat.zero_le _, Nat.zero_le _⟩ hl.1 (Nat.le_of_ble_eq_true rfl) d_M_run_55 rfl (fun H locs h => ?_)
      refine W.eq (g2 := F0 m 58 ls [.int (r_M_move X M1 i)]) rfl ?_
      have h : zH dC dI k q X (m_M_move X M1 i) (zA q) s.heap H locs := h
      refine lv_iconst (v := 2) hx hb d_M_run_58 (by decide) ?_
      refine lv_icmp_ne (tgt := 66) hx hb d_M_run_59 (by decide) (fun hh4 => ?_) (fun hh4 => ?_)
      · skip
        refine lv_iconst (v := 0) hx hb d_M_run_66 (by decide) ?_
        refine lv_istore hx hb d_M_run_67 hl (by decide) rfl (fun ls hl => ?_)
        have hl : lv_has ls 6 [(4, .int 0), (5, .int (nI i)), (3, .int tk), (2, .int mo), (0, .ref (q 37)), (1, .int x)] := hl
        refine lv_iinc (k := 1) (v := ((nI i) + 1)) hx hb d_M_run_69 hl rfl rfl (by decide) rfl (fun ls hl => ?_)
        have hl : lv_has ls 6 [(5, .int ((nI i) + 1)), (4, .int 0), (3, .int tk), (2, .int mo), (0, .ref (q 37)), (1, .int x)] := hl
        refine lv_goto (tgt := 38) hx hb d_M_run_72 (by decide) ?_
        exact ih (i + 1) _ _ _ (by omega) (by rw [hres, m_in, if_neg hh4]) (by rw [← nI_1]; exact lv_sub hl [0, 1, 2, 3, 4, 5] rfl) (by rw [m_move_same hh4] at h; exact h)
      · skip
        refine lv_iconst (v := 1) hx hb d_M_run_62 (by decide) ?_
        refine lv_goto (tgt := 67) hx hb d_M_run_63 (by decide) ?_
        refine lv_istore hx hb d_M_run_67 hl (by decide) rfl (fun ls hl => ?_)
        have hl : lv_has ls 6 [(4, .int 1), (5, .int (nI i)), (3, .int tk), (2, .int mo), (0, .ref (q 37)), (1, .int x)] := hl
        refine lv_iinc (k := 1) (v := ((nI i) + 1)) hx hb d_M_run_69 hl rfl rfl (by decide) rfl (fun ls hl => ?_)
        have hl : lv_has ls 6 [(5, .int ((nI i) + 1)), (4, .int 1), (3, .int tk), (2, .int mo), (0, .ref (q 37)), (1, .int x)] := hl
        refine lv_goto (tgt := 38) hx hb d_M_run_72 (by decide) ?_
        refine lv_iload hx hb d_M_run_38 (lv_at hl 0 rfl) ?_
        refine lv_aload_n hx hb d_M_run_40 rfl (lv_at hl 4 rfl) ?_
        refine g_M_81 C h d_M_run_41 ?_
        refine lv_icmp_ge (tgt := 75) hx hb d_M_run_44 (by decide) (fun hh5 => ?_) (fun hh5 => ?_)
        · skip
          have e9 : (m_in X M1 n1 0) = ((m_M_move X M1 i), 1) := (by rw [hres, m_in, if_pos hh4])
          exact K _ _ _ (by rw [e9]; exact lv_sub hl [1, 2, 3, 4, 5] rfl) (by rw [e9]; exact h)
        · skip
          refine lv_iload hx hb d_M_run_47 (lv_at hl 1 rfl) ?_
          refine lv_if_ne (tgt := 75) hx hb d_M_run_49 (by decide) (fun _ => ?_) (fun hh6 => absurd hh6 (by decide))
          have e9 : (m_in X M1 n1 0) = ((m_M_move X M1 i), 1) := (by rw [hres, m_in, if_pos hh4])
          exact K _ _ _ (by rw [e9]; exact lv_sub hl [1, 2, 3, 4, 5] rfl) (by rw [e9]; exact h)
  obtain ⟨mo, hmo, emo⟩ := m_most_nat x
  have emo2 : (m_most x).toNatClampNeg = mo := rows_cl emo (by omega)
  have outer : ∀ (c0 t : Nat) (M1 : zMS) (b : Int32) (ls : Array Slot) (H : Heap) (locs : List Loc), t + c0 = mo → G M1 → ¬ b = 0 → m_out X mo 0 M = m_out X c0 t M1 → lv_has ls 6 [(4, .int b), (3, .int (nI t)), (2, .int (nI mo)), (0, .ref (q 37)), (1, .int x)] → zH dC dI k q X M1 (zA q) s.heap H locs → W p l e { frames := 4, cells := 0, slots := 0, locals := 110 } s m args below meth c H locs 0 0 (MQ below (zQc dC dI k q X (m_M_run X M x) (some (.int (r_M_run X M x)))) args s 0 0 (zA q)) (F0 m 22 ls []) := by
    intro c0
    induction c0 with
    | zero =>
      intro t M1 b ls H locs ht hg hb0 hres hl h
      refine lv_iload_n hx hb d_M_run_22 rfl (lv_at hl 1 rfl) ?_
      refine lv_iload_n hx hb d_M_run_23 rfl (lv_at hl 2 rfl) ?_
      refine lv_icmp_ge (tgt := 86) hx hb d_M_run_24 (by decide) (fun hh7 => ?_) (fun hh7 => absurd (nI_le (by omega) (by omega)) hh7)
      refine lv_iload_n hx hb d_M_run_86 rfl (lv_at hl 1 rfl) ?_
      exact z_retE C h hr hk (by rw [r_M_run, emo2, hres, m_out]) rfl (by rw [m_M_run, emo2, hres, m_out]) d_M_run_87
    | succ c0 ih =>
      intro t M1 b ls H locs ht hg hb0 hres hl h
      obtain ⟨n1, hn1, hb1, hW1, hG1⟩ := hG M1 hg
      have hcl : (M1 15 0).toNatClampNeg = n1 := rows_cl hn1 (by omega)
      rw [m_out, hcl] at hres
      refine lv_iload_n hx hb d_M_run_22 rfl (lv_at hl 1 rfl) ?_
      refine lv_iload_n hx hb d_M_run_23 rfl (lv_at hl 2 rfl) ?_
      refine lv_icmp_ge (tgt := 86) hx hb d_M_run_24 (by decide) (fun hh8 => absurd hh8 (nI_ge (by omega) (by omega))) (fun hh8 => ?_)
      refine lv_iload hx hb d_M_run_27 (lv_at hl 0 rfl) ?_
      refine lv_if_eq (tgt := 86) hx hb d_M_run_29 (by decide) (fun hh9 => absurd hh9 hb0) (fun hh9 => ?_)
      refine lv_iconst (v := 0) hx hb d_M_run_32 (by decide) ?_
      refine lv_istore hx hb d_M_run_33 hl (by decide) rfl (fun ls hl => ?_)
      have hl : lv_has ls 6 [(4, .int 0), (3, .int (nI t)), (2, .int (nI mo)), (0, .ref (q 37)), (1, .int x)] := hl
      refine lv_iconst (v := 0) hx hb d_M_run_35 (by decide) ?_
      refine lv_istore hx hb d_M_run_36 hl (by decide) rfl (fun ls hl => ?_)
      have hl : lv_has ls 6 [(5, .int 0), (4, .int 0), (3, .int (nI t)), (2, .int (nI mo)), (0, .ref (q 37)), (1, .int x)] := hl
      refine inner M1 n1 _ _ hn1 hb1 hW1 ?_ n1 0 _ _ _ (by omega) rfl (lv_sub hl [0, 1, 2, 3, 4, 5] rfl) h
      intro ls H locs hl h
      have hl : lv_has ls 6 [(4, .int ((m_in X M1 n1 0).2)), (3, .int (nI t)), (2, .int (nI mo)), (0, .ref (q 37)), (1, .int x)] := hl
      refine lv_iload hx hb d_M_run_75 (lv_at hl 0 rfl) ?_
      refine lv_if_eq (tgt := 22) hx hb d_M_run_77 (by decide) (fun hh10 => ?_) (fun hh10 => ?_)
      · skip
        rw [if_pos hh10] at hres
        refine lv_iload_n hx hb d_M_run_22 rfl (lv_at hl 1 rfl) ?_
        refine lv_iload_n hx hb d_M_run_23 rfl (lv_at hl 2 rfl) ?_
        refine lv_icmp_ge (tgt := 86) hx hb d_M_run_24 (by decide) (fun hh11 => absurd hh11 (nI_ge (by omega) (by omega))) (fun hh11 => ?_)
        refine lv_iload hx hb d_M_run_27 (lv_at hl 0 rfl) ?_
        refine lv_if_eq (tgt := 86) hx hb d_M_run_29 (by decide) (fun hh12 => ?_) (fun hh12 => absurd hh10 hh12)
        refine lv_iload_n hx hb d_M_run_86 rfl (lv_at hl 1 rfl) ?_
        exact z_retE C h hr hk (by rw [r_M_run, emo2, hres]) rfl (by rw [m_M_run, emo2, hres]) d_M_run_87
      · skip
        rw [if_neg hh10] at hres
        refine lv_iinc (k := 1) (v := nI t + 1) hx hb d_M_run_80 hl rfl rfl (by decide) rfl (fun ls hl => ?_)
        refine lv_goto (tgt := 22) hx hb d_M_run_83 (by decide) ?_
        exact ih (t + 1) (m_in X M1 n1 0).1 _ _ _ _ (by omega) (m_in_G hn1 hW1 hG1 hg) hh10 hres (by rw [← nI_1]; exact lv_sub hl [1, 0, 2, 3, 4] rfl) h
  refine lv_iload_n hx hb d_M_run_0 rfl (lv_at hl 1 rfl) ?_
  refine lv_iconst (v := 1) hx hb d_M_run_1 (by decide) ?_
  refine lv_icmp_lt (tgt := 11) hx hb d_M_run_2 (by decide) (fun hh13 => ?_) (fun hh13 => ?_)
  · skip
    refine lv_iconst (v := 0) hx hb d_M_run_11 (by decide) ?_
    refine lv_goto (tgt := 16) hx hb d_M_run_12 (by decide) ?_
    refine z_top (y := nI mo) (by rw [← emo]; simp only [m_most, eq_true hh13, ↓reduceIte]) ?_
    refine lv_istore_n hx hb d_M_run_16 rfl hl (by decide) rfl (fun ls hl => ?_)
    have hl : lv_has ls 6 [(2, .int (nI mo)), (0, .ref (q 37)), (1, .int x)] := hl
    refine lv_iconst (v := 0) hx hb d_M_run_17 (by decide) ?_
    refine lv_istore_n hx hb d_M_run_18 rfl hl (by decide) rfl (fun ls hl => ?_)
    have hl : lv_has ls 6 [(3, .int 0), (2, .int (nI mo)), (0, .ref (q 37)), (1, .int x)] := hl
    refine lv_iconst (v := 1) hx hb d_M_run_19 (by decide) ?_
    refine lv_istore hx hb d_M_run_20 hl (by decide) rfl (fun ls hl => ?_)
    have hl : lv_has ls 6 [(4, .int 1), (3, .int 0), (2, .int (nI mo)), (0, .ref (q 37)), (1, .int x)] := hl
    exact outer mo 0 M 1 _ _ _ (by omega) hg0 (by decide) rfl (lv_sub hl [0, 1, 2, 3, 4] rfl) h
  · skip
    refine lv_iload_n hx hb d_M_run_5 rfl (lv_at hl 1 rfl) ?_
    refine lv_bipush (v := 64) hx hb d_M_run_6 (by decide) ?_
    refine lv_icmp_le (tgt := 15) hx hb d_M_run_8 (by decide) (fun hh14 => ?_) (fun hh14 => ?_)
    · skip
      refine lv_iload_n hx hb d_M_run_15 rfl (lv_at hl 1 rfl) ?_
      refine z_top (y := nI mo) (by rw [← emo]; simp only [m_most, eq_false hh13, eq_true hh14, ↓reduceIte]) ?_
      refine lv_istore_n hx hb d_M_run_16 rfl hl (by decide) rfl (fun ls hl => ?_)
      have hl : lv_has ls 6 [(2, .int (nI mo)), (0, .ref (q 37)), (1, .int x)] := hl
      refine lv_iconst (v := 0) hx hb d_M_run_17 (by decide) ?_
      refine lv_istore_n hx hb d_M_run_18 rfl hl (by decide) rfl (fun ls hl => ?_)
      have hl : lv_has ls 6 [(3, .int 0), (2, .int (nI mo)), (0, .ref (q 37)), (1, .int x)] := hl
      refine lv_iconst (v := 1) hx hb d_M_run_19 (by decide) ?_
      refine lv_istore hx hb d_M_run_20 hl (by decide) rfl (fun ls hl => ?_)
      have hl : lv_has ls 6 [(4, .int 1), (3, .int 0), (2, .int (nI mo)), (0, .ref (q 37)), (1, .int x)] := hl
      exact outer mo 0 M 1 _ _ _ (by omega) hg0 (by decide) rfl (lv_sub hl [0, 1, 2, 3, 4] rfl) h
    · skip
      refine lv_iconst (v := 0) hx hb d_M_run_11 (by decide) ?_
      refine lv_goto (tgt := 16) hx hb d_M_run_12 (by decide) ?_
      refine z_top (y := nI mo) (by rw [← emo]; simp only [m_most, eq_false hh13, eq_false hh14, ↓reduceIte]) ?_
      refine lv_istore_n hx hb d_M_run_16 rfl hl (by decide) rfl (fun ls hl => ?_)
      have hl : lv_has ls 6 [(2, .int (nI mo)), (0, .ref (q 37)), (1, .int x)] := hl
      refine lv_iconst (v := 0) hx hb d_M_run_17 (by decide) ?_
      refine lv_istore_n hx hb d_M_run_18 rfl hl (by decide) rfl (fun ls hl => ?_)
      have hl : lv_has ls 6 [(3, .int 0), (2, .int (nI mo)), (0, .ref (q 37)), (1, .int x)] := hl
      refine lv_iconst (v := 1) hx hb d_M_run_19 (by decide) ?_
      refine lv_istore hx hb d_M_run_20 hl (by decide) rfl (fun ls hl => ?_)
      have hl : lv_has ls 6 [(4, .int 1), (3, .int 0), (2, .int (nI mo)), (0, .ref (q 37)), (1, .int x)] := hl
      exact outer mo 0 M 1 _ _ _ (by omega) hg0 (by decide) rfl (lv_sub hl [0, 1, 2, 3, 4] rfl) h
