/-! the home's WRITE, the operations that begin, in both pictures -/
theorem vo_d1_N (v : pv_V) (l r s c t c' l' : Nat) : (vo_d1 v l r s c).2.2 t c' l' = v.2.2 t c' l' := by
  unfold vo_d1
  split <;> rfl
theorem vo_d1_len (v : pv_V) (l r s c : Nat) : (vo_d1 v l r s c).1.length ≤ v.1.length + 1 := by
  unfold vo_d1
  split
  · simp [pv_snd]
  · omega
theorem px_d1 {v : pv_V} {X : zXS} {M : zMS} {l r s c : Nat} (h : PX v X) (hb : v.1.length < 2 ^ 28) (hl : l < 4) (hr : r < 4) (hs : s < 16) (hc : c < 4) : PX (vo_d1 v l r s c) (if ((nI s &&& (((1 : Int32) <<< (nI r &&& 31)) ^^^ (-1))) &&& ((1 : Int32) <<< (nI c &&& 31))) = 0 then X else x_A_send X M 7 (nI l) 4 (nI c) (nI r) 0 0) := by
  unfold vo_d1
  have q := bi_tst s hs r hr c hc
  by_cases e : c ≠ r ∧ pv_sb s c = 1
  · rw [if_pos e, if_neg (fun z => (q.mp z) e)]
    exact px_snd (m := (7, l, 4, c, r, 0, 0)) h (by omega) hl hr (Nat.le_of_ble_eq_true rfl) rfl rfl rfl rfl rfl rfl
  · rw [if_neg e, if_pos (q.mpr e)]
    exact h
theorem pm_d1 {v : pv_V} {M : zMS} {l r s c : Nat} (h : PM v M) (hb : v.1.length < 2 ^ 28) (hl : l < 4) (hr : r < 4) (hs : s < 16) (hc : c < 4) (h7 : v.2.2 7 0 l = s) : PM (vo_d1 v l r s c) (if nI c = nI r then M else if (((M 13 l) >>> (nI c &&& 31)) &&& 1) = 1 then m_send M 7 (nI l) 4 (nI c) (nI r) 0 0 else M) := by
  unfold vo_d1
  have h13 : M 13 l = nI s := by rw [(pm_h h hl).2.2.2, h7]
  have q := bi_shr s hs c hc
  rw [h13]
  by_cases e : c = r
  · rw [if_neg (fun z => z.1 e), if_pos (by rw [e])]
    exact h
  · rw [if_neg (fun z => e ((nI_eq (by omega) (by omega)).mp z))]
    by_cases e1 : pv_sb s c = 1
    · rw [if_pos ⟨e, e1⟩, if_pos (q.mpr e1)]
      exact pm_snd (m := (7, l, 4, c, r, 0, 0)) h (by omega) hl hr (Nat.le_of_ble_eq_true rfl) rfl rfl rfl rfl rfl rfl
    · rw [if_neg (fun z => e1 z.2), if_neg (fun z => e1 (q.mp z))]
      exact h
theorem vo_hw1_0 {v : pv_V} {l r : Nat} (hr : r < 4) (hz : v.2.2 7 0 l = 0) : vo_hw1 v l r = pv_sN (pv_sN (pv_snd v (9, l, 4, r, r, 0, v.2.1 5 0 l)) 6 0 l r) 5 0 l 2 := by
  have e : ∀ c, pv_sb 0 c = 0 := fun c => by simp [pv_sb]
  have e1 : ∀ (w : pv_V) (c : Nat), vo_d1 w l r 0 c = w := fun w c => by
    unfold vo_d1
    rw [if_neg]
    intro z
    rw [e] at z
    exact absurd z.2 (by decide)
  have e2 : pv_cnt 0 r = 0 := by simp [pv_cnt, e]
  unfold vo_hw1 vo_d4
  rw [hz, e1, e1, e1, e1, e2]
  congr 2
  have := pv_sN_self (pv_snd v (9, l, 4, r, r, 0, v.2.1 5 0 l)) 7 0 l
  rw [show (pv_snd v (9, l, 4, r, r, 0, v.2.1 5 0 l)).2.2 7 0 l = 0 from hz] at this
  exact this
theorem px_hw {v : pv_V} {X : zXS} {M : zMS} {l r : Nat} (h : PX v X) (hb : v.1.length < 2 ^ 27) (hl : l < 4) (hr : r < 4) (hk : v.2.2 5 0 l ≤ 3) (hk3 : v.2.2 5 0 l ≠ 3) (ho : v.2.2 6 0 l < 4) (hs : v.2.2 7 0 l < 16) (hz : v.2.2 5 0 l = 0 → v.2.2 7 0 l = 0) : PX (vo_hw v l r) (x_H_takeWrite X M (nI l) (nI r)) := by
  have i : (nI l).toNatClampNeg = l := nI_clamp (by omega)
  obtain ⟨h1, h2, h3, h4⟩ := px_h h hl
  have q0 : (nI (v.2.2 5 0 l) = 0) ↔ v.2.2 5 0 l = 0 := nI_is (by omega) (by omega) rfl
  have q1 : (nI (v.2.2 5 0 l) = 1) ↔ v.2.2 5 0 l = 1 := nI_is (by omega) (by omega) rfl
  unfold vo_hw
  by_cases e0 : v.2.2 5 0 l = 0
  · simp only [x_H_takeWrite, x_H_makeOwner, i, h1, h2, q0, if_pos e0]
    rw [if_neg (by omega), vo_hw1_0 hr (hz e0)]
    exact px_kp (x := 2) (px_ow (x := r) (px_snd (m := (9, l, 4, r, r, 0, v.2.1 5 0 l)) h (by omega) hl hr (Nat.le_of_ble_eq_true rfl) rfl rfl rfl rfl rfl rfl))
  · by_cases e1 : v.2.2 5 0 l = 1
    · simp only [x_H_takeWrite, x_H_makeOwner, i, h2, q0, q1, if_neg e0, if_pos e1]
      rw [if_neg (by omega)]
      unfold vo_hw1 vo_d4 x_H_dropOthers jX_H_dropOthers_72_4 jX_H_dropOthers_72_3 jX_H_dropOthers_72_2 jX_H_dropOthers_72_1
      simp only [r_H_bit, i, h1, h4]
      rw [bi_cnt X M hs hr]
      have w0 : PX (pv_snd v (9, l, 4, r, r, pv_cnt (v.2.2 7 0 l) r, v.2.1 5 0 l)) (x_A_send X M 9 (nI l) 4 (nI r) (nI r) (nI (pv_cnt (v.2.2 7 0 l) r)) (v.2.1 5 0 l)) := px_snd (m := (9, l, 4, r, r, pv_cnt (v.2.2 7 0 l) r, v.2.1 5 0 l)) h (by omega) hl hr (Nat.le_of_ble_eq_true rfl) rfl rfl rfl rfl rfl rfl
      have l0 : (pv_snd v (9, l, 4, r, r, pv_cnt (v.2.2 7 0 l) r, v.2.1 5 0 l)).1.length = v.1.length + 1 := by simp [pv_snd]
      generalize pv_snd v (9, l, 4, r, r, pv_cnt (v.2.2 7 0 l) r, v.2.1 5 0 l) = v0 at w0 l0 ⊢
      have w1 := px_d1 (M := M) (c := 0) w0 (by omega) hl hr hs (by omega)
      have l1 := vo_d1_len v0 l r (v.2.2 7 0 l) 0
      have w2 := px_d1 (M := M) (c := 1) w1 (by omega) hl hr hs (by omega)
      have l2 := vo_d1_len (vo_d1 v0 l r (v.2.2 7 0 l) 0) l r (v.2.2 7 0 l) 1
      have w3 := px_d1 (M := M) (c := 2) w2 (by omega) hl hr hs (by omega)
      have l3 := vo_d1_len (vo_d1 (vo_d1 v0 l r (v.2.2 7 0 l) 0) l r (v.2.2 7 0 l) 1) l r (v.2.2 7 0 l) 2
      have w4 := px_d1 (M := M) (c := 3) w3 (by omega) hl hr hs (by omega)
      exact px_kp (x := 2) (px_ow (x := r) (px_sh (x := 0) w4))
    · have e2 : v.2.2 5 0 l = 2 := by omega
      simp only [x_H_takeWrite, x_H_makeOwner, i, h2, h3, q0, q1, if_neg e0, if_neg e1]
      rw [if_pos e2]
      exact px_kp (x := 2) (px_ow (x := r) (px_snd (m := (6, l, 4, v.2.2 6 0 l, r, 0, 0)) h (by omega) hl hr (Nat.le_of_ble_eq_true rfl) rfl rfl rfl rfl rfl rfl))
/-- one count more, if core c is another sharer -/
theorem bi_c1 {s r c n : Nat} {x : Int32} (hs : s < 16) (hr : r < 4) (hc : c < 4) (hx : x = nI n) : (if nI c = nI r then x else if ((nI s >>> (nI c &&& 31)) &&& 1) = 1 then x + 1 else x) = nI (n + if c ≠ r then pv_sb s c else 0) := by
  have q := bi_shr s hs c hc
  have b1 := pv_sb_le s c
  by_cases e : c = r
  · rw [if_pos (by rw [e]), if_neg (fun z => z e), hx, Nat.add_zero]
  · rw [if_neg (fun z => e ((nI_eq (by omega) (by omega)).mp z)), if_pos e]
    by_cases e1 : pv_sb s c = 1
    · rw [if_pos (q.mpr e1), e1, hx, nI_1]
    · rw [if_neg (fun z => e1 (q.mp z)), show pv_sb s c = 0 by omega, hx, Nat.add_zero]
theorem pm_cnt {X : zXS} {M : zMS} {l r s : Nat} (hl : l < 4) (hr : r < 4) (hs : s < 16) (h13 : M 13 l = nI s) : jL3_M_toWrite_64_4 X M (nI l) (nI r) = nI (pv_cnt s r) := by
  have i : (nI l).toNatClampNeg = l := nI_clamp (by omega)
  have j1 : jL3_M_toWrite_64_1 X M (nI l) (nI r) = nI (0 + if 0 ≠ r then pv_sb s 0 else 0) := by
    unfold jL3_M_toWrite_64_1
    rw [i, h13]
    exact bi_c1 (c := 0) (n := 0) (x := 0) hs hr (by omega) rfl
  have j2 : jL3_M_toWrite_64_2 X M (nI l) (nI r) = nI ((0 + if 0 ≠ r then pv_sb s 0 else 0) + if 1 ≠ r then pv_sb s 1 else 0) := by
    unfold jL3_M_toWrite_64_2
    rw [i, h13]
    exact bi_c1 (c := 1) hs hr (by omega) j1
  have j3 : jL3_M_toWrite_64_3 X M (nI l) (nI r) = nI (((0 + if 0 ≠ r then pv_sb s 0 else 0) + if 1 ≠ r then pv_sb s 1 else 0) + if 2 ≠ r then pv_sb s 2 else 0) := by
    unfold jL3_M_toWrite_64_3
    rw [i, h13]
    exact bi_c1 (c := 2) hs hr (by omega) j2
  have j4 : jL3_M_toWrite_64_4 X M (nI l) (nI r) = nI ((((0 + if 0 ≠ r then pv_sb s 0 else 0) + if 1 ≠ r then pv_sb s 1 else 0) + if 2 ≠ r then pv_sb s 2 else 0) + if 3 ≠ r then pv_sb s 3 else 0) := by
    unfold jL3_M_toWrite_64_4
    rw [i, h13]
    exact bi_c1 (c := 3) hs hr (by omega) j3
  rw [j4]
  unfold pv_cnt
  congr 1
  omega
theorem pm_hw {v : pv_V} {X : zXS} {M : zMS} {l r : Nat} (h : PM v M) (hb : v.1.length < 2 ^ 27) (hl : l < 4) (hr : r < 4) (hk : v.2.2 5 0 l ≤ 3) (ho : v.2.2 6 0 l < 4) (hs : v.2.2 7 0 l < 16) : PM (vo_hw v l r) (m_M_toWrite X M (nI l) (nI r)) := by
  have i : (nI l).toNatClampNeg = l := nI_clamp (by omega)
  obtain ⟨h1, h2, h3, h4⟩ := pm_h h hl
  have q2 : (nI (v.2.2 5 0 l) = 2) ↔ v.2.2 5 0 l = 2 := nI_is (by omega) (by omega) rfl
  unfold vo_hw
  simp only [m_M_toWrite, i, h2, h3, q2]
  by_cases e2 : v.2.2 5 0 l = 2
  · rw [if_pos e2, if_pos e2]
    exact pm_kp (x := 2) (pm_ow (x := r) (pm_snd (m := (6, l, 4, v.2.2 6 0 l, r, 0, 0)) h (by omega) hl hr (Nat.le_of_ble_eq_true rfl) rfl rfl rfl rfl rfl rfl))
  · rw [if_neg e2, if_neg e2]
    unfold vo_hw1 vo_d4 jM_M_toWrite_129_4 jM_M_toWrite_129_3 jM_M_toWrite_129_2 jM_M_toWrite_129_1
    simp only [i, h1, pm_cnt hl hr hs h4]
    have w0 : PM (pv_snd v (9, l, 4, r, r, pv_cnt (v.2.2 7 0 l) r, v.2.1 5 0 l)) (m_send M 9 (nI l) 4 (nI r) (nI r) (nI (pv_cnt (v.2.2 7 0 l) r)) (v.2.1 5 0 l)) := pm_snd (m := (9, l, 4, r, r, pv_cnt (v.2.2 7 0 l) r, v.2.1 5 0 l)) h (by omega) hl hr (Nat.le_of_ble_eq_true rfl) rfl rfl rfl rfl rfl rfl
    have l0 : (pv_snd v (9, l, 4, r, r, pv_cnt (v.2.2 7 0 l) r, v.2.1 5 0 l)).1.length = v.1.length + 1 := by simp [pv_snd]
    have n0 : (pv_snd v (9, l, 4, r, r, pv_cnt (v.2.2 7 0 l) r, v.2.1 5 0 l)).2.2 7 0 l = v.2.2 7 0 l := rfl
    generalize pv_snd v (9, l, 4, r, r, pv_cnt (v.2.2 7 0 l) r, v.2.1 5 0 l) = v0 at w0 l0 n0 ⊢
    have w1 := pm_d1 (c := 0) w0 (by omega) hl hr hs (by omega) n0
    have l1 := vo_d1_len v0 l r (v.2.2 7 0 l) 0
    have w2 := pm_d1 (c := 1) w1 (by omega) hl hr hs (by omega) (by rw [vo_d1_N]; exact n0)
    have l2 := vo_d1_len (vo_d1 v0 l r (v.2.2 7 0 l) 0) l r (v.2.2 7 0 l) 1
    have w3 := pm_d1 (c := 2) w2 (by omega) hl hr hs (by omega) (by rw [vo_d1_N, vo_d1_N]; exact n0)
    have l3 := vo_d1_len (vo_d1 (vo_d1 v0 l r (v.2.2 7 0 l) 0) l r (v.2.2 7 0 l) 1) l r (v.2.2 7 0 l) 2
    have w4 := pm_d1 (c := 3) w3 (by omega) hl hr hs (by omega) (by rw [vo_d1_N, vo_d1_N, vo_d1_N]; exact n0)
    exact pm_kp (x := 2) (pm_ow (x := r) (pm_sh (x := 0) w4))
