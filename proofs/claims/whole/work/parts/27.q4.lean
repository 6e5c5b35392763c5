/-! the model's side of the cores' steps -/
theorem pm_dd {v : pv_V} {X : zXS} {M : zMS} {c l : Nat} {r nn x : Int32} (h : PM v M) (hc : c < 4) (hl : l < 4) (ho : v.2.2 4 c 0 ≤ 2) (hs : v.2.2 0 c l ≤ 12) (hn : v.2.2 2 c l < 2 ^ 30) (hg : v.2.2 1 c l < 2 ^ 30) : PM (vo_dd v c l) (m_M_toCore X M 11 (nI l) (nI c) r nn x) := by
  obtain ⟨h0, -, -, h3⟩ := pm_v0 h hc hl
  have q6 : (nI (v.2.2 0 c l) = 6) ↔ v.2.2 0 c l = 6 := nI_is (by omega) (by omega) rfl
  have q8 : (nI (v.2.2 0 c l) = 8) ↔ v.2.2 0 c l = 8 := nI_is (by omega) (by omega) rfl
  have hq : PM (pv_sN v 1 c l (v.2.2 1 c l + 1)) (u2 M 3 (4 * c + l) (nI (v.2.2 1 c l) + 1)) := by rw [nI_1]; exact pm_got hl h
  have ha := pm_ack (X := X) hq hc hl ho (by simp [pv_sN, pv_u3]; omega) (by simp [pv_sN, pv_u3]; omega)
  simp only [m_M_toCore, pm_at4 hc hl, h0, h3, q6, q8]
  unfold vo_dd
  rw [if_pos (show (8 : Int32) ≤ 11 by decide), if_neg (show ¬ (11 : Int32) = 8 by decide), if_pos trivial]
  by_cases e6 : v.2.2 0 c l = 6
  · rw [if_pos e6, if_pos (Or.inl e6)]; exact ha
  · by_cases e8 : v.2.2 0 c l = 8
    · rw [if_neg e6, if_pos e8, if_pos (Or.inr e8)]; exact ha
    · rw [if_neg e6, if_neg e8, if_neg (by omega)]; exact hq
theorem pm_so {v : pv_V} {X : zXS} {M : zMS} {c l : Nat} {r nn x : Int32} (h : PM v M) (hc : c < 4) (hl : l < 4) (ho : v.2.2 4 c 0 ≤ 2) : PM (vo_so v c l x) (m_M_toCore X M 10 (nI l) (nI c) r nn x) := by
  simp only [m_M_toCore, pm_at4 hc hl]
  rw [if_pos (show (8 : Int32) ≤ 10 by decide), if_neg (show ¬ (10 : Int32) = 8 by decide), if_neg (show ¬ (10 : Int32) = 11 by decide), if_pos trivial]
  exact pm_fin1 (pm_st (x := 2) hl (pm_val hl h)) hc hl ho (Or.inr (Or.inl (by simp [pv_sN, pv_u3])))
theorem pm_lf {v : pv_V} {X : zXS} {M : zMS} {c l : Nat} {r nn x : Int32} (h : PM v M) (hc : c < 4) (hl : l < 4) : PM (pv_sN v 0 c l 0) (m_M_toCore X M 8 (nI l) (nI c) r nn x) := by
  simp only [m_M_toCore, pm_at4 hc hl]
  rw [if_pos (show (8 : Int32) ≤ 8 by decide), if_pos trivial]
  exact pm_st (x := 0) hl h
theorem pm_da {v : pv_V} {X : zXS} {M : zMS} {c l n : Nat} {r x : Int32} (h : PM v M) (hc : c < 4) (hl : l < 4) (ho : v.2.2 4 c 0 ≤ 2) (hs : v.2.2 0 c l ≤ 12) (hz : v.2.2 0 c l = 4 → v.2.2 4 c 0 = 0) (hn : n < 2 ^ 30) (hg : v.2.2 1 c l < 2 ^ 30) : PM (vo_da v c l n x) (m_M_toCore X M 9 (nI l) (nI c) r (nI n) x) := by
  obtain ⟨h0, -, -, -⟩ := pm_v0 h hc hl
  have q4 : (nI (v.2.2 0 c l) = 4) ↔ v.2.2 0 c l = 4 := nI_is (by omega) (by omega) rfl
  have q7 : (nI (v.2.2 0 c l) = 7) ↔ v.2.2 0 c l = 7 := nI_is (by omega) (by omega) rfl
  simp only [m_M_toCore, jS0_M_toCore_323_1, pm_at4 hc hl, h0, q4, q7]
  rw [if_pos (show (8 : Int32) ≤ 9 by decide), if_neg (show ¬ (9 : Int32) = 8 by decide), if_neg (show ¬ (9 : Int32) = 11 by decide), if_neg (show ¬ (9 : Int32) = 10 by decide)]
  unfold vo_da
  by_cases e4 : v.2.2 0 c l = 4
  · rw [if_pos e4, if_pos e4]
    exact pm_fin1 (pm_st (x := 1) hl (pm_val hl h)) hc hl ho (Or.inl (hz e4))
  · rw [if_neg e4, if_neg e4]
    have hw := pm_need (c := c) (l := l) (x := n) hl (pm_val (c := c) (l := l) (x := x) hl h)
    by_cases e7 : v.2.2 0 c l = 7
    · rw [if_pos e7, if_pos e7]
      exact pm_ack (pm_st (x := 8) hl hw) hc hl ho (by simp [pv_sN, pv_u3]; omega) (by simp [pv_sN, pv_u3, pv_sI]; omega)
    · rw [if_neg e7, if_neg e7]
      exact pm_ack (pm_st (x := 6) hl hw) hc hl ho (by simp [pv_sN, pv_u3]; omega) (by simp [pv_sN, pv_u3, pv_sI]; omega)
theorem m_bec5 : m_bec 5 2 = 1 ∧ m_bec 5 3 = 1 ∧ m_bec 5 9 = 11 ∧ m_bec 5 10 = 11 := by decide
theorem m_bec6 : m_bec 6 2 = 0 ∧ m_bec 6 3 = 0 ∧ m_bec 6 9 = 12 ∧ m_bec 6 10 = 12 := by decide
theorem m_bec7 : m_bec 7 1 = 0 ∧ m_bec 7 7 = 5 ∧ m_bec 7 11 = 12 := by decide
theorem pm_fw {v : pv_V} {X : zXS} {M : zMS} {c l r : Nat} {nn x : Int32} (h : PM v M) (hb : v.1.length < 2 ^ 28) (hc : c < 4) (hl : l < 4) (hr : r < 4) (hs : v.2.2 0 c l = 2 ∨ v.2.2 0 c l = 3 ∨ v.2.2 0 c l = 9 ∨ v.2.2 0 c l = 10) : PM (vo_fw v c l r) (m_M_toCore X M 6 (nI l) (nI c) (nI r) nn x) := by
  obtain ⟨h0, h1, -, -⟩ := pm_v0 h hc hl
  have key : ∀ s : Nat, PM (pv_sN (pv_snd v (9, l, c, r, r, 0, v.2.1 1 c l)) 0 c l s) (m_send (u2 M 0 (4 * c + l) (nI s)) 9 (nI l) (nI c) (nI r) (nI r) 0 (v.2.1 1 c l)) := fun s =>
    pm_snd (m := (9, l, c, r, r, 0, v.2.1 1 c l)) (pm_st (c := c) (l := l) (x := s) hl h) (by show v.1.length < _; omega) hl hr (Nat.le_of_ble_eq_true rfl) rfl rfl rfl rfl rfl rfl
  simp only [m_M_toCore, jM_M_toCore_179_1, jM_M_toCore_155_1, jM_M_toCore_126_1, jS0_M_toCore_66_1, jS0_M_toCore_93_1, pm_at4 hc hl, h0, h1]
  unfold vo_fw
  rcases hs with e | e | e | e <;> rw [e]
  · rw [show nI 2 = 2 from rfl, m_bec6.1]; simp; exact key 0
  · rw [show nI 3 = 3 from rfl, m_bec6.2.1]; simp; exact key 0
  · rw [show nI 9 = 9 from rfl, m_bec6.2.2.1]; simp; exact key 12
  · rw [show nI 10 = 10 from rfl, m_bec6.2.2.2]; simp; exact key 12
theorem pm_fr {v : pv_V} {X : zXS} {M : zMS} {c l r : Nat} {nn x : Int32} (h : PM v M) (hb : v.1.length < 2 ^ 28) (hc : c < 4) (hl : l < 4) (hr : r < 4) (hs : v.2.2 0 c l = 2 ∨ v.2.2 0 c l = 3 ∨ v.2.2 0 c l = 9 ∨ v.2.2 0 c l = 10) : PM (vo_fr v c l r) (m_M_toCore X M 5 (nI l) (nI c) (nI r) nn x) := by
  obtain ⟨h0, h1, -, -⟩ := pm_v0 h hc hl
  have k1 : ∀ s : Nat, PM (pv_sN (pv_snd v (9, l, c, r, r, 0, v.2.1 1 c l)) 0 c l s) (m_send (u2 M 0 (4 * c + l) (nI s)) 9 (nI l) (nI c) (nI r) (nI r) 0 (v.2.1 1 c l)) := fun s =>
    pm_snd (m := (9, l, c, r, r, 0, v.2.1 1 c l)) (pm_st (c := c) (l := l) (x := s) hl h) (by show v.1.length < _; omega) hl hr (Nat.le_of_ble_eq_true rfl) rfl rfl rfl rfl rfl rfl
  have key : ∀ s : Nat, PM (pv_sN (pv_snd (pv_snd v (9, l, c, r, r, 0, v.2.1 1 c l)) (9, l, c, 4, r, 0, v.2.1 1 c l)) 0 c l s) (m_send (m_send (u2 M 0 (4 * c + l) (nI s)) 9 (nI l) (nI c) (nI r) (nI r) 0 (v.2.1 1 c l)) 9 (nI l) (nI c) 4 (nI r) 0 (v.2.1 1 c l)) := fun s =>
    pm_snd (m := (9, l, c, 4, r, 0, v.2.1 1 c l)) (k1 s) (by show (v.1 ++ [_]).length < _; rw [List.length_append]; show v.1.length + 1 < _; omega) hl hr (Nat.le_of_ble_eq_true rfl) rfl rfl rfl rfl rfl rfl
  have r1 : ∀ (s y1 y2 y3 y4 y5 y6 y7 : Int32), (m_send (u2 M 0 (4 * c + l) s) y1 y2 y3 y4 y5 y6 y7) 1 (4 * c + l) = v.2.1 1 c l := fun _ _ _ _ _ _ _ _ => h1
  simp only [m_M_toCore, jM_M_toCore_179_1, jM_M_toCore_155_1, jM_M_toCore_126_1, jS0_M_toCore_66_1, jS0_M_toCore_93_1, pm_at4 hc hl, h0, h1]
  unfold vo_fr
  rcases hs with e | e | e | e <;> rw [e]
  · rw [show nI 2 = 2 from rfl, m_bec5.1]; simp; rw [r1]; exact key 1
  · rw [show nI 3 = 3 from rfl, m_bec5.2.1]; simp; rw [r1]; exact key 1
  · rw [show nI 9 = 9 from rfl, m_bec5.2.2.1]; simp; rw [r1]; exact key 11
  · rw [show nI 10 = 10 from rfl, m_bec5.2.2.2]; simp; rw [r1]; exact key 11
theorem pm_dr {v : pv_V} {X : zXS} {M : zMS} {c l r : Nat} {nn x : Int32} (h : PM v M) (hb : v.1.length < 2 ^ 28) (hc : c < 4) (hl : l < 4) (hr : r < 4) (hs : v.2.2 0 c l = 1 ∨ v.2.2 0 c l = 7 ∨ v.2.2 0 c l = 11) : PM (vo_dr v c l r) (m_M_toCore X M 7 (nI l) (nI c) (nI r) nn x) := by
  obtain ⟨h0, h1, -, -⟩ := pm_v0 h hc hl
  have key : ∀ s : Nat, PM (pv_sN (pv_snd v (11, l, c, r, r, 0, 0)) 0 c l s) (m_send (u2 M 0 (4 * c + l) (nI s)) 11 (nI l) (nI c) (nI r) (nI r) 0 0) := fun s =>
    pm_snd (m := (11, l, c, r, r, 0, 0)) (pm_st (c := c) (l := l) (x := s) hl h) (by show v.1.length < _; omega) hl hr (Nat.le_of_ble_eq_true rfl) rfl rfl rfl rfl rfl rfl
  simp only [m_M_toCore, jM_M_toCore_179_1, jM_M_toCore_155_1, jM_M_toCore_126_1, jS0_M_toCore_66_1, jS0_M_toCore_93_1, pm_at4 hc hl, h0, h1]
  unfold vo_dr
  rcases hs with e | e | e <;> rw [e]
  · rw [show nI 1 = 1 from rfl, m_bec7.1]; simp; exact key 0
  · rw [show nI 7 = 7 from rfl, m_bec7.2.1]; simp; exact key 5
  · rw [show nI 11 = 11 from rfl, m_bec7.2.2]; simp; exact key 12
