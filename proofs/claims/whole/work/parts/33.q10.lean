/-! an operation begins, and a core leaves a line, in both pictures -/
def vo_set (v : pv_V) (c w : Nat) (x : Int32) : pv_V := pv_sI (pv_sN v 4 c 0 w) 2 c 0 x
def vo_miss (v : pv_V) (c l w : Nat) (x : Int32) : pv_V :=
  pv_snd (pv_sN (pv_sN (pv_sN (pv_sN (vo_set v c w x) 3 c 0 1) 1 c l 0) 2 c l 0) 0 c l (if w = 0 then 4 else if v.2.2 0 c l = 1 then 7 else 5)) (if w = 0 then 0 else 1, l, c, 4, c, 0, 0)
def vo_start (v : pv_V) (c l w : Nat) (x : Int32) : pv_V :=
  if v.2.2 3 c 0 = 0 ∧ v.2.2 0 c l ≤ 3 then (if v.2.2 0 c l ≤ (if w = 0 then 0 else 1) then vo_miss v c l w x else vo_fin (vo_set v c w x) c l) else v
def vo_startR (v : pv_V) (c l w : Nat) : Int32 :=
  if v.2.2 3 c 0 = 0 ∧ v.2.2 0 c l ≤ 3 then (if v.2.2 0 c l ≤ (if w = 0 then 0 else 1) then 0 else 1) else (-2)
theorem px_start {v : pv_V} {X : zXS} {M : zMS} {c l w : Nat} {x : Int32} (h : PX v X) (hb : v.1.length < 2 ^ 28) (hc : c < 4) (hl : l < 4) (hw : w ≤ 2) (hs : v.2.2 0 c l ≤ 12) (hwt : v.2.2 3 c 0 ≤ 1) : PX (vo_start v c l w x) (x_C_start X M c (nI w) (nI l) x) ∧ r_C_start X M c (nI w) (nI l) x = vo_startR v c l w := by
  have h6 : X 6 c 0 = nI (v.2.2 3 c 0) := h 6 c 0 (by unfold pq_xd; omega)
  have h3 := (px_v3 h hc hl).1
  have il : (nI l).toNatClampNeg = l := nI_clamp (by omega)
  have hu : PX (vo_set v c w x) (u3 (u3 X 7 c 0 (nI w)) 8 c 0 x) := px_opd (px_op h)
  have q6 : (X 6 c 0 = 0) ↔ v.2.2 3 c 0 = 0 := by rw [h6]; exact nI_is (by omega) (by omega) rfl
  have qs : (r_C_isStill X M c (nI l) = 0) ↔ ¬ v.2.2 0 c l ≤ 3 := by
    unfold r_C_isStill
    rw [il, h3]
    rcases (show v.2.2 0 c l = 0 ∨ v.2.2 0 c l = 1 ∨ v.2.2 0 c l = 2 ∨ v.2.2 0 c l = 3 ∨ v.2.2 0 c l = 4 ∨ v.2.2 0 c l = 5 ∨ v.2.2 0 c l = 6 ∨ v.2.2 0 c l = 7 ∨ v.2.2 0 c l = 8 ∨ v.2.2 0 c l = 9 ∨ v.2.2 0 c l = 10 ∨ v.2.2 0 c l = 11 ∨ v.2.2 0 c l = 12 by omega) with e | e | e | e | e | e | e | e | e | e | e | e | e <;> rw [e] <;> decide
  have qe : (r_C_isEnough (u3 (u3 X 7 c 0 (nI w)) 8 c 0 x) M c (nI l) = 0) ↔ v.2.2 0 c l ≤ (if w = 0 then 0 else 1) := by
    unfold r_C_isEnough jS0_C_isEnough_18_1
    rw [il, show (u3 (u3 X 7 c 0 (nI w)) 8 c 0 x) 3 c l = nI (v.2.2 0 c l) from h3, show (u3 (u3 X 7 c 0 (nI w)) 8 c 0 x) 7 c 0 = nI w by simp [u3, upd]]
    rcases (show w = 0 ∨ w = 1 ∨ w = 2 by omega) with rfl | rfl | rfl <;>
    rcases (show v.2.2 0 c l = 0 ∨ v.2.2 0 c l = 1 ∨ v.2.2 0 c l = 2 ∨ v.2.2 0 c l = 3 ∨ v.2.2 0 c l = 4 ∨ v.2.2 0 c l = 5 ∨ v.2.2 0 c l = 6 ∨ v.2.2 0 c l = 7 ∨ v.2.2 0 c l = 8 ∨ v.2.2 0 c l = 9 ∨ v.2.2 0 c l = 10 ∨ v.2.2 0 c l = 11 ∨ v.2.2 0 c l = 12 by omega) with e | e | e | e | e | e | e | e | e | e | e | e | e <;> rw [e] <;> decide
  unfold vo_start vo_startR x_C_start r_C_start
  by_cases e6 : v.2.2 3 c 0 = 0
  · rw [if_pos (q6.mpr e6), if_pos (q6.mpr e6)]
    by_cases es : v.2.2 0 c l ≤ 3
    · have ns : ¬ r_C_isStill X M c (nI l) = 0 := fun z => (qs.mp z) es
      rw [if_neg ns, if_neg ns, if_pos (show v.2.2 3 c 0 = 0 ∧ v.2.2 0 c l ≤ 3 from ⟨e6, es⟩), if_pos (show v.2.2 3 c 0 = 0 ∧ v.2.2 0 c l ≤ 3 from ⟨e6, es⟩)]
      by_cases ee : v.2.2 0 c l ≤ (if w = 0 then 0 else 1)
      · rw [if_pos (qe.mpr ee), if_pos (qe.mpr ee), if_pos ee, if_pos ee]
        refine ⟨?_, rfl⟩
        have hz := px_zero (c := c) (l := l) (px_wt (c := c) (x := 1) hu)
        unfold x_C_request jS0_C_request_90_1
        rw [il, show (u3 (u3 X 7 c 0 (nI w)) 8 c 0 x) 7 c 0 = nI w by simp [u3, upd], show (u3 (u3 (u3 (u3 X 7 c 0 (nI w)) 8 c 0 x) 6 c 0 1) 5 c l 0) 3 c l = nI (v.2.2 0 c l) from h3]
        have q1 : (nI (v.2.2 0 c l) = 1) ↔ v.2.2 0 c l = 1 := nI_is (by omega) (by omega) rfl
        have q0 : (nI w = 0) ↔ w = 0 := nI_is (by omega) (by omega) rfl
        unfold vo_miss
        by_cases e0 : w = 0
        · rw [if_pos (q0.mpr e0), if_pos e0, if_pos e0]
          exact px_st (x := 4) (px_snd (m := (0, l, c, 4, c, 0, 0)) hz (by exact (by omega : v.1.length < 2 ^ 29)) hl hc (show 0 < 2 ^ 29 by decide) rfl rfl rfl rfl rfl rfl)
        · rw [if_neg (fun z => e0 (q0.mp z)), if_neg e0, if_neg e0]
          have hh := px_snd (M := M) (m := (1, l, c, 4, c, 0, 0)) hz (by exact (by omega : v.1.length < 2 ^ 29)) hl hc (show 1 < 2 ^ 29 by decide) rfl rfl rfl rfl rfl rfl
          by_cases e1 : v.2.2 0 c l = 1
          · rw [if_pos (q1.mpr e1), if_pos e1]; exact px_st (x := 7) hh
          · rw [if_neg (fun z => e1 (q1.mp z)), if_neg e1]; exact px_st (x := 5) hh
      · rw [if_neg (fun z => ee (qe.mp z)), if_neg (fun z => ee (qe.mp z)), if_neg ee, if_neg ee]
        refine ⟨px_fin1 hu hc hl ?_ hs, rfl⟩
        show (pv_u3 v.2.2 4 c 0 w) 4 c 0 ≤ 2
        simp [pv_u3]; omega
    · rw [if_pos (qs.mpr es), if_pos (qs.mpr es), if_neg (show ¬ (v.2.2 3 c 0 = 0 ∧ v.2.2 0 c l ≤ 3) from fun z => es z.2), if_neg (show ¬ (v.2.2 3 c 0 = 0 ∧ v.2.2 0 c l ≤ 3) from fun z => es z.2)]
      exact ⟨h, rfl⟩
  · rw [if_neg (fun z => e6 (q6.mp z)), if_neg (fun z => e6 (q6.mp z)), if_neg (show ¬ (v.2.2 3 c 0 = 0 ∧ v.2.2 0 c l ≤ 3) from fun z => e6 z.1), if_neg (show ¬ (v.2.2 3 c 0 = 0 ∧ v.2.2 0 c l ≤ 3) from fun z => e6 z.1)]
    exact ⟨h, rfl⟩
theorem m4_in : ∀ c, c < 4 → ¬ m_four (nI c) = 0 := by decide
theorem pm_start {v : pv_V} {X : zXS} {M : zMS} {c l w : Nat} {x : Int32} (h : PM v M) (hb : v.1.length < 2 ^ 28) (hc : c < 4) (hl : l < 4) (hw : w ≤ 2) (hs : v.2.2 0 c l ≤ 12) (hwt : v.2.2 3 c 0 ≤ 1) : PM (vo_start v c l w x) (m_M_start X M (nI c) (nI l) (nI w) x) ∧ r_M_start X M (nI c) (nI l) (nI w) x = vo_startR v c l w := by
  have h5 : M 5 c = nI (v.2.2 3 c 0) := h 5 c (by unfold pq_md; omega)
  have h0 := (pm_v0 h hc hl).1
  have ic : (nI c).toNatClampNeg = c := nI_clamp (by omega)
  have ia := pm_at4 hc hl
  have hu : PM (vo_set v c w x) (u2 (u2 M 7 c (nI w)) 8 c x) := pm_opd (pm_op h)
  have q5 : (M 5 c = 0) ↔ v.2.2 3 c 0 = 0 := by rw [h5]; exact nI_is (by omega) (by omega) rfl
  have qs : (nI (v.2.2 0 c l) ≤ 3) ↔ v.2.2 0 c l ≤ 3 := nI_leI (a := v.2.2 0 c l) (b := 3) (by omega) (by omega)
  have qe : (nI (v.2.2 0 c l) ≤ (if nI w = 0 then 0 else 1)) ↔ v.2.2 0 c l ≤ (if w = 0 then 0 else 1) := by
    rcases (show w = 0 ∨ w = 1 ∨ w = 2 by omega) with rfl | rfl | rfl
    · exact nI_leI (a := v.2.2 0 c l) (b := 0) (by omega) (by omega)
    · exact nI_leI (a := v.2.2 0 c l) (b := 1) (by omega) (by omega)
    · exact nI_leI (a := v.2.2 0 c l) (b := 1) (by omega) (by omega)
  unfold vo_start vo_startR m_M_start r_M_start jS0_M_start_77_1 jS0_M_start_149_1 jS0_M_start_160_1
  rw [if_neg (m4_in c hc), if_neg (m4_in l hl), if_neg (m4_in c hc), if_neg (m4_in l hl), ic, ia, h0]
  by_cases e6 : v.2.2 3 c 0 = 0
  · rw [if_pos (q5.mpr e6), if_pos (q5.mpr e6)]
    by_cases es : v.2.2 0 c l ≤ 3
    · rw [if_pos (qs.mpr es), if_pos (qs.mpr es), if_pos (show v.2.2 3 c 0 = 0 ∧ v.2.2 0 c l ≤ 3 from ⟨e6, es⟩), if_pos (show v.2.2 3 c 0 = 0 ∧ v.2.2 0 c l ≤ 3 from ⟨e6, es⟩)]
      by_cases ee : v.2.2 0 c l ≤ (if w = 0 then 0 else 1)
      · rw [if_pos (qe.mpr ee), if_pos (qe.mpr ee), if_pos ee, if_pos ee]
        refine ⟨?_, rfl⟩
        have hz := pm_need (c := c) (x := 0) hl (pm_got (c := c) (x := 0) hl (pm_skip (i := c) (x := nI l) (pm_wt (c := c) (x := 1) hu)))
        have q1 : (nI (v.2.2 0 c l) = 1) ↔ v.2.2 0 c l = 1 := nI_is (by omega) (by omega) rfl
        have q0 : (nI w = 0) ↔ w = 0 := nI_is (by omega) (by omega) rfl
        unfold vo_miss
        by_cases e0 : w = 0
        · rw [if_pos (q0.mpr e0), if_pos (q0.mpr e0), if_pos e0, if_pos e0]
          exact pm_snd (m := (0, l, c, 4, c, 0, 0)) (pm_st (c := c) (x := 4) hl hz) (by exact (by omega : v.1.length < 2 ^ 29)) hl hc (show 0 < 2 ^ 29 by decide) rfl rfl rfl rfl rfl rfl
        · rw [if_neg (fun z => e0 (q0.mp z)), if_neg (fun z => e0 (q0.mp z)), if_neg e0, if_neg e0]
          by_cases e1 : v.2.2 0 c l = 1
          · rw [if_pos (q1.mpr e1), if_pos e1]
            exact pm_snd (m := (1, l, c, 4, c, 0, 0)) (pm_st (c := c) (x := 7) hl hz) (by exact (by omega : v.1.length < 2 ^ 29)) hl hc (show 1 < 2 ^ 29 by decide) rfl rfl rfl rfl rfl rfl
          · rw [if_neg (fun z => e1 (q1.mp z)), if_neg e1]
            exact pm_snd (m := (1, l, c, 4, c, 0, 0)) (pm_st (c := c) (x := 5) hl hz) (by exact (by omega : v.1.length < 2 ^ 29)) hl hc (show 1 < 2 ^ 29 by decide) rfl rfl rfl rfl rfl rfl
      · rw [if_neg (fun z => ee (qe.mp z)), if_neg (fun z => ee (qe.mp z)), if_neg ee, if_neg ee]
        have e4 : (vo_set v c w x).2.2 4 c 0 = w := by
          show (pv_u3 v.2.2 4 c 0 w) 4 c 0 = w
          simp [pv_u3]
        refine ⟨pm_fin1 hu hc hl (by rw [e4]; exact hw) ?_, rfl⟩
        rw [e4]
        show w = 0 ∨ v.2.2 0 c l = 2 ∨ v.2.2 0 c l = 3
        split at ee <;> omega
    · rw [if_neg (fun z => es (qs.mp z)), if_neg (fun z => es (qs.mp z)), if_neg (show ¬ (v.2.2 3 c 0 = 0 ∧ v.2.2 0 c l ≤ 3) from fun z => es z.2), if_neg (show ¬ (v.2.2 3 c 0 = 0 ∧ v.2.2 0 c l ≤ 3) from fun z => es z.2)]
      exact ⟨h, rfl⟩
  · rw [if_neg (fun z => e6 (q5.mp z)), if_neg (fun z => e6 (q5.mp z)), if_neg (show ¬ (v.2.2 3 c 0 = 0 ∧ v.2.2 0 c l ≤ 3) from fun z => e6 z.1), if_neg (show ¬ (v.2.2 3 c 0 = 0 ∧ v.2.2 0 c l ≤ 3) from fun z => e6 z.1)]
    exact ⟨h, rfl⟩
def vo_lv (v : pv_V) (c l : Nat) : pv_V := pv_snd (pv_sN v 0 c l (12 - v.2.2 0 c l)) (v.2.2 0 c l + 1, l, c, 4, c, 0, if v.2.2 0 c l = 3 then v.2.1 1 c l else 0)
def vo_leave (v : pv_V) (c l : Nat) : pv_V := if v.2.2 0 c l = 1 ∨ v.2.2 0 c l = 2 ∨ v.2.2 0 c l = 3 then vo_lv v c l else v
def vo_leaveR (v : pv_V) (c l : Nat) : Int32 := if v.2.2 0 c l ≤ 3 then (if v.2.2 0 c l = 0 then 0 else 1) else (-2)
theorem px_leave {v : pv_V} {X : zXS} {M : zMS} {c l : Nat} (h : PX v X) (hb : v.1.length < 2 ^ 28) (hc : c < 4) (hl : l < 4) (hs : v.2.2 0 c l ≤ 12) : PX (vo_leave v c l) (x_C_giveUp X M c (nI l)) ∧ r_C_giveUp X M c (nI l) = vo_leaveR v c l := by
  obtain ⟨h3, h4⟩ := px_v3 h hc hl
  have il : (nI l).toNatClampNeg = l := nI_clamp (by omega)
  unfold vo_leave vo_leaveR x_C_giveUp r_C_giveUp r_C_isStill vo_lv x_C_sendLeave
  rw [il, h3, h4]
  rcases (show v.2.2 0 c l = 0 ∨ v.2.2 0 c l = 1 ∨ v.2.2 0 c l = 2 ∨ v.2.2 0 c l = 3 ∨ 4 ≤ v.2.2 0 c l by omega) with e | e | e | e | e
  · rw [e]; exact ⟨h, rfl⟩
  · rw [e]
    exact ⟨px_st (x := 11) (px_snd (m := (2, l, c, 4, c, 0, 0)) h (by omega) hl hc (show 2 < 2 ^ 29 by decide) rfl rfl rfl rfl rfl rfl), rfl⟩
  · rw [e]
    exact ⟨px_st (x := 10) (px_snd (m := (3, l, c, 4, c, 0, 0)) h (by omega) hl hc (show 3 < 2 ^ 29 by decide) rfl rfl rfl rfl rfl rfl), rfl⟩
  · rw [e]
    exact ⟨px_st (x := 9) (px_snd (m := (4, l, c, 4, c, 0, v.2.1 1 c l)) h (by omega) hl hc (show 4 < 2 ^ 29 by decide) rfl rfl rfl rfl rfl rfl), rfl⟩
  · rw [if_neg (show ¬ (v.2.2 0 c l = 1 ∨ v.2.2 0 c l = 2 ∨ v.2.2 0 c l = 3) by omega), if_neg (show ¬ v.2.2 0 c l ≤ 3 by omega)]
    have : (if (3 : Int32) < nI (v.2.2 0 c l) then (0 : Int32) else 1) = 0 := by
      rcases (show v.2.2 0 c l = 4 ∨ v.2.2 0 c l = 5 ∨ v.2.2 0 c l = 6 ∨ v.2.2 0 c l = 7 ∨ v.2.2 0 c l = 8 ∨ v.2.2 0 c l = 9 ∨ v.2.2 0 c l = 10 ∨ v.2.2 0 c l = 11 ∨ v.2.2 0 c l = 12 by omega) with e | e | e | e | e | e | e | e | e <;> rw [e] <;> decide
    rw [if_pos this, if_pos this]
    exact ⟨h, rfl⟩
theorem pm_leave {v : pv_V} {X : zXS} {M : zMS} {c l : Nat} (h : PM v M) (hb : v.1.length < 2 ^ 28) (hc : c < 4) (hl : l < 4) (hs : v.2.2 0 c l ≤ 12) : PM (vo_leave v c l) (m_M_leave X M (nI c) (nI l)) ∧ r_M_leave X M (nI c) (nI l) = vo_leaveR v c l := by
  obtain ⟨h0, h1, -, -⟩ := pm_v0 h hc hl
  have ia := pm_at4 hc hl
  unfold vo_leave vo_leaveR m_M_leave r_M_leave vo_lv jS0_M_leave_83_1
  rw [if_neg (m4_in c hc), if_neg (m4_in l hl), if_neg (m4_in c hc), if_neg (m4_in l hl), ia, h0, h1]
  rcases (show v.2.2 0 c l = 0 ∨ v.2.2 0 c l = 1 ∨ v.2.2 0 c l = 2 ∨ v.2.2 0 c l = 3 ∨ 4 ≤ v.2.2 0 c l by omega) with e | e | e | e | e
  · rw [e]; exact ⟨h, rfl⟩
  · rw [e]
    exact ⟨pm_snd (m := (2, l, c, 4, c, 0, 0)) (pm_st (c := c) (x := 11) hl h) (by exact (by omega : v.1.length < 2 ^ 29)) hl hc (show 2 < 2 ^ 29 by decide) rfl rfl rfl rfl rfl rfl, rfl⟩
  · rw [e]
    exact ⟨pm_snd (m := (3, l, c, 4, c, 0, 0)) (pm_st (c := c) (x := 10) hl h) (by exact (by omega : v.1.length < 2 ^ 29)) hl hc (show 3 < 2 ^ 29 by decide) rfl rfl rfl rfl rfl rfl, rfl⟩
  · rw [e]
    exact ⟨pm_snd (m := (4, l, c, 4, c, 0, v.2.1 1 c l)) (pm_st (c := c) (x := 9) hl h) (by exact (by omega : v.1.length < 2 ^ 29)) hl hc (show 4 < 2 ^ 29 by decide) rfl rfl rfl rfl rfl rfl, rfl⟩
  · rw [if_neg (show ¬ (v.2.2 0 c l = 1 ∨ v.2.2 0 c l = 2 ∨ v.2.2 0 c l = 3) by omega), if_neg (show ¬ v.2.2 0 c l ≤ 3 by omega)]
    have : ¬ nI (v.2.2 0 c l) ≤ 3 := fun z => by
      have := (nI_leI (a := v.2.2 0 c l) (b := 3) (by omega) (by omega)).mp z
      omega
    rw [if_neg this, if_neg this]
    exact ⟨h, rfl⟩
