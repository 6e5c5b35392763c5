/-! the home's steps in both pictures -/
def pv_clr (s r : Nat) : Nat := s &&& (15 ^^^ 2 ^ r)
def pv_cnt (s r : Nat) : Nat := (if 0 ≠ r then pv_sb s 0 else 0) + (if 1 ≠ r then pv_sb s 1 else 0) + (if 2 ≠ r then pv_sb s 2 else 0) + (if 3 ≠ r then pv_sb s 3 else 0)
theorem bi_bit : ∀ r, r < 4 → (1 : Int32) <<< (nI r &&& 31) = nI (2 ^ r) := by decide
set_option maxRecDepth 100000 in
theorem bi_or : ∀ s, s < 16 → ∀ r, r < 4 → nI s ||| ((1 : Int32) <<< (nI r &&& 31)) = nI (s ||| 2 ^ r) := by decide
theorem bi_or2 : ∀ o, o < 4 → ∀ r, r < 4 → ((1 : Int32) <<< (nI o &&& 31)) ||| ((1 : Int32) <<< (nI r &&& 31)) = nI (2 ^ o ||| 2 ^ r) := by decide
set_option maxRecDepth 100000 in
theorem bi_clr : ∀ s, s < 16 → ∀ r, r < 4 → nI s &&& (((1 : Int32) <<< (nI r &&& 31)) ^^^ (-1)) = nI (pv_clr s r) := by decide
set_option maxRecDepth 100000 in
theorem bi_tst : ∀ s, s < 16 → ∀ r, r < 4 → ∀ c, c < 4 → (((nI s &&& (((1 : Int32) <<< (nI r &&& 31)) ^^^ (-1))) &&& ((1 : Int32) <<< (nI c &&& 31)) = 0) ↔ ¬ (c ≠ r ∧ pv_sb s c = 1)) := by decide
set_option maxRecDepth 100000 in
theorem bi_shr : ∀ s, s < 16 → ∀ c, c < 4 → (((nI s >>> (nI c &&& 31)) &&& 1 = 1) ↔ pv_sb s c = 1) := by decide
set_option maxRecDepth 100000 in
theorem bi_cnt0 : ∀ s, s < 16 → ∀ r, r < 4 → r_J_bitCount (fun _ _ _ => 0) (fun _ _ => 0) (nI s &&& (((1 : Int32) <<< (nI r &&& 31)) ^^^ (-1))) = nI (pv_cnt s r) := by decide
theorem bi_cnt (X : zXS) (M : zMS) {s r : Nat} (hs : s < 16) (hr : r < 4) : r_J_bitCount X M (nI s &&& (((1 : Int32) <<< (nI r &&& 31)) ^^^ (-1))) = nI (pv_cnt s r) := bi_cnt0 s hs r hr
set_option maxRecDepth 100000 in
theorem bi_clr16 : ∀ s, s < 16 → ∀ r, r < 4 → pv_clr s r < 16 ∧ (s = 0 → pv_clr s r = 0) ∧ ∀ d, d < 4 → pv_sb (pv_clr s r) d = if d = r then 0 else pv_sb s d := by decide
set_option maxRecDepth 100000 in
theorem bi_or16 : ∀ s, s < 16 → ∀ r, r < 4 → s ||| 2 ^ r < 16 ∧ ∀ d, d < 4 → pv_sb (s ||| 2 ^ r) d = if d = r then 1 else pv_sb s d := by decide
set_option maxRecDepth 100000 in
theorem bi_or216 : ∀ o, o < 4 → ∀ r, r < 4 → 2 ^ o ||| 2 ^ r < 16 ∧ ∀ d, d < 4 → pv_sb (2 ^ o ||| 2 ^ r) d = if d = o ∨ d = r then 1 else 0 := by decide
def vo_hr0 (v : pv_V) (l r : Nat) : pv_V := pv_sN (pv_sN (pv_snd v (10, l, 4, r, r, 0, v.2.1 5 0 l)) 6 0 l r) 5 0 l 2
def vo_hr1 (v : pv_V) (l r : Nat) : pv_V := pv_sN (pv_snd v (9, l, 4, r, r, 0, v.2.1 5 0 l)) 7 0 l (v.2.2 7 0 l ||| 2 ^ r)
def vo_hr2 (v : pv_V) (l r : Nat) : pv_V := pv_sN (pv_sN (pv_snd v (5, l, 4, v.2.2 6 0 l, r, 0, 0)) 7 0 l (2 ^ v.2.2 6 0 l ||| 2 ^ r)) 5 0 l 3
def vo_hr (v : pv_V) (l r : Nat) : pv_V := if v.2.2 5 0 l = 0 then vo_hr0 v l r else if v.2.2 5 0 l = 1 then vo_hr1 v l r else vo_hr2 v l r
def vo_d1 (v : pv_V) (l r s c : Nat) : pv_V := if c ≠ r ∧ pv_sb s c = 1 then pv_snd v (7, l, 4, c, r, 0, 0) else v
def vo_d4 (v : pv_V) (l r s : Nat) : pv_V := vo_d1 (vo_d1 (vo_d1 (vo_d1 v l r s 0) l r s 1) l r s 2) l r s 3
def vo_hw2 (v : pv_V) (l r : Nat) : pv_V := pv_sN (pv_sN (pv_snd v (6, l, 4, v.2.2 6 0 l, r, 0, 0)) 6 0 l r) 5 0 l 2
def vo_hw1 (v : pv_V) (l r : Nat) : pv_V := pv_sN (pv_sN (pv_sN (vo_d4 (pv_snd v (9, l, 4, r, r, pv_cnt (v.2.2 7 0 l) r, v.2.1 5 0 l)) l r (v.2.2 7 0 l)) 7 0 l 0) 6 0 l r) 5 0 l 2
def vo_hw (v : pv_V) (l r : Nat) : pv_V := if v.2.2 5 0 l = 2 then vo_hw2 v l r else vo_hw1 v l r
def vo_hl (v : pv_V) (l r kd : Nat) (x : Int32) : pv_V :=
  if v.2.2 5 0 l = 2 ∧ v.2.2 6 0 l = r then pv_snd (pv_sN (if kd = 4 then pv_sI v 5 0 l x else v) 5 0 l 0) (8, l, 4, r, r, 0, 0)
  else pv_snd (if v.2.2 5 0 l = 1 ∧ pv_clr (v.2.2 7 0 l) r = 0 then pv_sN (pv_sN v 7 0 l (pv_clr (v.2.2 7 0 l) r)) 5 0 l 0 else pv_sN v 7 0 l (pv_clr (v.2.2 7 0 l) r)) (8, l, 4, r, r, 0, 0)
def vo_hd (v : pv_V) (l : Nat) (x : Int32) : pv_V := pv_sN (pv_sI v 5 0 l x) 5 0 l (if v.2.2 7 0 l = 0 then 0 else 1)
theorem px_h {v : pv_V} {X : zXS} {l : Nat} (h : PX v X) (hl : l < 4) : X 11 0 l = v.2.1 5 0 l ∧ X 12 0 l = nI (v.2.2 5 0 l) ∧ X 13 0 l = nI (v.2.2 6 0 l) ∧ X 14 0 l = nI (v.2.2 7 0 l) :=
  ⟨h 11 0 l (by unfold pq_xd; omega), h 12 0 l (by unfold pq_xd; omega), h 13 0 l (by unfold pq_xd; omega), h 14 0 l (by unfold pq_xd; omega)⟩
theorem pm_h {v : pv_V} {M : zMS} {l : Nat} (h : PM v M) (hl : l < 4) : M 14 l = v.2.1 5 0 l ∧ M 11 l = nI (v.2.2 5 0 l) ∧ M 12 l = nI (v.2.2 6 0 l) ∧ M 13 l = nI (v.2.2 7 0 l) :=
  ⟨h 14 l (by unfold pq_md; omega), h 11 l (by unfold pq_md; omega), h 12 l (by unfold pq_md; omega), h 13 l (by unfold pq_md; omega)⟩
theorem px_hr {v : pv_V} {X : zXS} {M : zMS} {l r : Nat} (h : PX v X) (hb : v.1.length < 2 ^ 28) (hl : l < 4) (hr : r < 4) (hk : v.2.2 5 0 l ≤ 3) (ho : v.2.2 6 0 l < 4) (hs : v.2.2 7 0 l < 16) : PX (vo_hr v l r) (x_H_takeRead X M (nI l) (nI r)) := by
  have i : (nI l).toNatClampNeg = l := nI_clamp (by omega)
  obtain ⟨h1, h2, h3, h4⟩ := px_h h hl
  have q0 : (nI (v.2.2 5 0 l) = 0) ↔ v.2.2 5 0 l = 0 := nI_is (by omega) (by omega) rfl
  have q1 : (nI (v.2.2 5 0 l) = 1) ↔ v.2.2 5 0 l = 1 := nI_is (by omega) (by omega) rfl
  simp only [x_H_takeRead, x_H_makeOwner, r_H_bit, i, h1, h2, h3, h4, q0, q1]
  unfold vo_hr
  by_cases e0 : v.2.2 5 0 l = 0
  · rw [if_pos e0, if_pos e0]
    exact px_kp (x := 2) (px_ow (x := r) (px_snd (m := (10, l, 4, r, r, 0, v.2.1 5 0 l)) h (by omega) hl hr (Nat.le_of_ble_eq_true rfl) rfl rfl rfl rfl rfl rfl))
  · by_cases e1 : v.2.2 5 0 l = 1
    · rw [if_neg e0, if_pos e1, if_neg e0, if_pos e1, bi_or _ hs _ hr]
      exact px_sh (px_snd (m := (9, l, 4, r, r, 0, v.2.1 5 0 l)) h (by omega) hl hr (Nat.le_of_ble_eq_true rfl) rfl rfl rfl rfl rfl rfl)
    · rw [if_neg e0, if_neg e1, if_neg e0, if_neg e1, bi_or2 _ ho _ hr]
      exact px_kp (x := 3) (px_sh (px_snd (m := (5, l, 4, v.2.2 6 0 l, r, 0, 0)) h (by omega) hl hr (Nat.le_of_ble_eq_true rfl) rfl rfl rfl rfl rfl rfl))
theorem pm_hr {v : pv_V} {X : zXS} {M : zMS} {l r : Nat} (h : PM v M) (hb : v.1.length < 2 ^ 28) (hl : l < 4) (hr : r < 4) (hk : v.2.2 5 0 l ≤ 3) (ho : v.2.2 6 0 l < 4) (hs : v.2.2 7 0 l < 16) : PM (vo_hr v l r) (m_M_toRead X M (nI l) (nI r)) := by
  have i : (nI l).toNatClampNeg = l := nI_clamp (by omega)
  obtain ⟨h1, h2, h3, h4⟩ := pm_h h hl
  have q0 : (nI (v.2.2 5 0 l) = 0) ↔ v.2.2 5 0 l = 0 := nI_is (by omega) (by omega) rfl
  have q1 : (nI (v.2.2 5 0 l) = 1) ↔ v.2.2 5 0 l = 1 := nI_is (by omega) (by omega) rfl
  have r13 : ∀ (y1 y2 y3 y4 y5 y6 y7 : Int32), (m_send M y1 y2 y3 y4 y5 y6 y7) 13 l = nI (v.2.2 7 0 l) := fun _ _ _ _ _ _ _ => h4
  have r12 : ∀ (y1 y2 y3 y4 y5 y6 y7 : Int32), (m_send M y1 y2 y3 y4 y5 y6 y7) 12 l = nI (v.2.2 6 0 l) := fun _ _ _ _ _ _ _ => h3
  simp only [m_M_toRead, i, h1, h2, h3, r13, r12, q0, q1]
  unfold vo_hr
  by_cases e0 : v.2.2 5 0 l = 0
  · rw [if_pos e0, if_pos e0]
    exact pm_kp (x := 2) (pm_ow (x := r) (pm_snd (m := (10, l, 4, r, r, 0, v.2.1 5 0 l)) h (by omega) hl hr (Nat.le_of_ble_eq_true rfl) rfl rfl rfl rfl rfl rfl))
  · by_cases e1 : v.2.2 5 0 l = 1
    · rw [if_neg e0, if_pos e1, if_neg e0, if_pos e1, bi_or _ hs _ hr]
      exact pm_sh (pm_snd (m := (9, l, 4, r, r, 0, v.2.1 5 0 l)) h (by omega) hl hr (Nat.le_of_ble_eq_true rfl) rfl rfl rfl rfl rfl rfl)
    · rw [if_neg e0, if_neg e1, if_neg e0, if_neg e1, bi_or2 _ ho _ hr]
      exact pm_kp (x := 3) (pm_sh (pm_snd (m := (5, l, 4, v.2.2 6 0 l, r, 0, 0)) h (by omega) hl hr (Nat.le_of_ble_eq_true rfl) rfl rfl rfl rfl rfl rfl))
theorem px_hd {v : pv_V} {X : zXS} {l : Nat} {x : Int32} (h : PX v X) (hl : l < 4) (hs : v.2.2 7 0 l < 16) : PX (vo_hd v l x) (u3 (u3 X 11 0 l x) 12 0 l (if X 14 0 l = 0 then 0 else 1)) := by
  obtain ⟨h1, h2, h3, h4⟩ := px_h h hl
  have q0 : (nI (v.2.2 7 0 l) = 0) ↔ v.2.2 7 0 l = 0 := nI_is (by omega) (by omega) rfl
  simp only [h4, q0]
  unfold vo_hd
  by_cases e : v.2.2 7 0 l = 0
  · rw [if_pos e, if_pos e]; exact px_kp (x := 0) (px_mem h)
  · rw [if_neg e, if_neg e]; exact px_kp (x := 1) (px_mem h)
theorem pm_hd {v : pv_V} {M : zMS} {l : Nat} {x : Int32} (h : PM v M) (hl : l < 4) (hs : v.2.2 7 0 l < 16) : PM (vo_hd v l x) (if M 13 l = 0 then u2 (u2 M 14 l x) 11 l 0 else u2 (u2 M 14 l x) 11 l 1) := by
  obtain ⟨h1, h2, h3, h4⟩ := pm_h h hl
  have q0 : (nI (v.2.2 7 0 l) = 0) ↔ v.2.2 7 0 l = 0 := nI_is (by omega) (by omega) rfl
  simp only [h4, q0]
  unfold vo_hd
  by_cases e : v.2.2 7 0 l = 0
  · rw [if_pos e, if_pos e]; exact pm_kp (x := 0) (pm_mem h)
  · rw [if_neg e, if_neg e]; exact pm_kp (x := 1) (pm_mem h)
theorem px_hl {v : pv_V} {X : zXS} {M : zMS} {l r kd kk : Nat} {x : Int32} (h : PX v X) (hb : v.1.length < 2 ^ 28) (hl : l < 4) (hr : r < 4) (hk : v.2.2 5 0 l ≤ 3) (ho : v.2.2 6 0 l < 4) (hs : v.2.2 7 0 l < 16) (hkd : kd ≤ 11) (e0 : r_A_part X M (nI kk) 0 = nI kd) (e6 : r_A_part X M (nI kk) 6 = x) : PX (vo_hl v l r kd x) (x_H_takeLeave X M kk (nI l) (nI r)) := by
  have i : (nI l).toNatClampNeg = l := nI_clamp (by omega)
  obtain ⟨h1, h2, h3, h4⟩ := px_h h hl
  have q2 : (nI (v.2.2 5 0 l) = 2) ↔ v.2.2 5 0 l = 2 := nI_is (by omega) (by omega) rfl
  have q1 : (nI (v.2.2 5 0 l) = 1) ↔ v.2.2 5 0 l = 1 := nI_is (by omega) (by omega) rfl
  have qr : (nI (v.2.2 6 0 l) = nI r) ↔ v.2.2 6 0 l = r := nI_eq (by omega) (by omega)
  have q4 : (nI kd = 4) ↔ kd = 4 := nI_is (by omega) (by omega) rfl
  have c16 := bi_clr16 _ hs _ hr
  have qc : (nI (pv_clr (v.2.2 7 0 l) r) = 0) ↔ pv_clr (v.2.2 7 0 l) r = 0 := nI_is (by omega) (by omega) rfl
  have hcl := bi_clr _ hs _ hr
  have r14 : ∀ z : Int32, (u3 X 14 0 l z) 14 0 l = z := fun z => by rw [u3_at, if_pos ⟨rfl, rfl, rfl⟩]
  have hf : PX (if v.2.2 5 0 l = 1 ∧ pv_clr (v.2.2 7 0 l) r = 0 then pv_sN (pv_sN v 7 0 l (pv_clr (v.2.2 7 0 l) r)) 5 0 l 0 else pv_sN v 7 0 l (pv_clr (v.2.2 7 0 l) r)) (x_H_forgetSharer X M (nI l) (nI r)) := by
    simp only [x_H_forgetSharer, r_H_bit, i, h2, h4, hcl, r14, q1, qc]
    by_cases e1 : v.2.2 5 0 l = 1
    · by_cases e2 : pv_clr (v.2.2 7 0 l) r = 0
      · rw [if_pos ⟨e1, e2⟩, if_pos e1, if_pos e2]; exact px_kp (x := 0) (px_sh h)
      · rw [if_neg (fun z => e2 z.2), if_pos e1, if_neg e2]; exact px_sh h
    · rw [if_neg (fun z => e1 z.1), if_neg e1]; exact px_sh h
  have hlen : (if v.2.2 5 0 l = 1 ∧ pv_clr (v.2.2 7 0 l) r = 0 then pv_sN (pv_sN v 7 0 l (pv_clr (v.2.2 7 0 l) r)) 5 0 l 0 else pv_sN v 7 0 l (pv_clr (v.2.2 7 0 l) r)).1.length < 2 ^ 29 := by
    split <;> (show v.1.length < _; omega)
  simp only [x_H_takeLeave, i, h2, h3, q2, qr, e0, e6, q4]
  unfold vo_hl
  by_cases a2 : v.2.2 5 0 l = 2
  · by_cases ar : v.2.2 6 0 l = r
    · rw [if_pos ⟨a2, ar⟩, if_pos a2, if_pos ar]
      by_cases a4 : kd = 4
      · rw [if_pos a4, if_pos a4]
        exact px_snd (m := (8, l, 4, r, r, 0, 0)) (px_kp (x := 0) (px_mem h)) (by show v.1.length < _; omega) hl hr (Nat.le_of_ble_eq_true rfl) rfl rfl rfl rfl rfl rfl
      · rw [if_neg a4, if_neg a4]
        exact px_snd (m := (8, l, 4, r, r, 0, 0)) (px_kp (x := 0) h) (by show v.1.length < _; omega) hl hr (Nat.le_of_ble_eq_true rfl) rfl rfl rfl rfl rfl rfl
    · rw [if_neg (fun z => ar z.2), if_pos a2, if_neg ar]
      exact px_snd (m := (8, l, 4, r, r, 0, 0)) hf hlen hl hr (Nat.le_of_ble_eq_true rfl) rfl rfl rfl rfl rfl rfl
  · rw [if_neg (fun z => a2 z.1), if_neg a2]
    exact px_snd (m := (8, l, 4, r, r, 0, 0)) hf hlen hl hr (Nat.le_of_ble_eq_true rfl) rfl rfl rfl rfl rfl rfl
theorem pm_hl {v : pv_V} {X : zXS} {M : zMS} {l r kd : Nat} {x : Int32} (h : PM v M) (hb : v.1.length < 2 ^ 28) (hl : l < 4) (hr : r < 4) (hk : v.2.2 5 0 l ≤ 3) (ho : v.2.2 6 0 l < 4) (hs : v.2.2 7 0 l < 16) (hkd : kd ≤ 11) : PM (vo_hl v l r kd x) (m_M_toLeave X M (nI kd) (nI l) (nI r) x) := by
  have i : (nI l).toNatClampNeg = l := nI_clamp (by omega)
  obtain ⟨h1, h2, h3, h4⟩ := pm_h h hl
  have q2 : (nI (v.2.2 5 0 l) = 2) ↔ v.2.2 5 0 l = 2 := nI_is (by omega) (by omega) rfl
  have q1 : (nI (v.2.2 5 0 l) = 1) ↔ v.2.2 5 0 l = 1 := nI_is (by omega) (by omega) rfl
  have qr : (nI (v.2.2 6 0 l) = nI r) ↔ v.2.2 6 0 l = r := nI_eq (by omega) (by omega)
  have q4 : (nI kd = 4) ↔ kd = 4 := nI_is (by omega) (by omega) rfl
  have c16 := bi_clr16 _ hs _ hr
  have qc : (nI (pv_clr (v.2.2 7 0 l) r) = 0) ↔ pv_clr (v.2.2 7 0 l) r = 0 := nI_is (by omega) (by omega) rfl
  have hcl := bi_clr _ hs _ hr
  have r13 : ∀ z : Int32, (u2 M 13 l z) 13 l = z := fun z => by rw [u2_at, if_pos ⟨rfl, rfl⟩]
  have hw1 : PM (pv_snd (pv_sN (pv_sN v 7 0 l (pv_clr (v.2.2 7 0 l) r)) 5 0 l 0) (8, l, 4, r, r, 0, 0)) (m_send (u2 (u2 M 13 l (nI (pv_clr (v.2.2 7 0 l) r))) 11 l 0) 8 (nI l) 4 (nI r) (nI r) 0 0) :=
    pm_snd (m := (8, l, 4, r, r, 0, 0)) (pm_kp (x := 0) (pm_sh h)) (by show v.1.length < _; omega) hl hr (Nat.le_of_ble_eq_true rfl) rfl rfl rfl rfl rfl rfl
  have hw2 : PM (pv_snd (pv_sN v 7 0 l (pv_clr (v.2.2 7 0 l) r)) (8, l, 4, r, r, 0, 0)) (m_send (u2 M 13 l (nI (pv_clr (v.2.2 7 0 l) r))) 8 (nI l) 4 (nI r) (nI r) 0 0) :=
    pm_snd (m := (8, l, 4, r, r, 0, 0)) (pm_sh h) (by show v.1.length < _; omega) hl hr (Nat.le_of_ble_eq_true rfl) rfl rfl rfl rfl rfl rfl
  simp only [m_M_toLeave, i, h2, h3, h4, hcl, r13, q2, q1, qr, q4, qc]
  unfold vo_hl
  by_cases a2 : v.2.2 5 0 l = 2
  · have a1 : ¬ v.2.2 5 0 l = 1 := by omega
    by_cases ar : v.2.2 6 0 l = r
    · rw [if_pos ⟨a2, ar⟩, if_pos a2, if_pos ar]
      by_cases a4 : kd = 4
      · rw [if_pos a4, if_pos a4]
        exact pm_snd (m := (8, l, 4, r, r, 0, 0)) (pm_kp (x := 0) (pm_mem h)) (by show v.1.length < _; omega) hl hr (Nat.le_of_ble_eq_true rfl) rfl rfl rfl rfl rfl rfl
      · rw [if_neg a4, if_neg a4]
        exact pm_snd (m := (8, l, 4, r, r, 0, 0)) (pm_kp (x := 0) h) (by show v.1.length < _; omega) hl hr (Nat.le_of_ble_eq_true rfl) rfl rfl rfl rfl rfl rfl
    · rw [if_neg (fun z => ar z.2), if_pos a2, if_neg ar, if_neg a1, if_neg (fun z => a1 z.1)]
      exact hw2
  · rw [if_neg (fun z => a2 z.1), if_neg a2]
    by_cases a1 : v.2.2 5 0 l = 1
    · rw [if_pos a1]
      by_cases e2 : pv_clr (v.2.2 7 0 l) r = 0
      · rw [if_pos e2, if_pos ⟨a1, e2⟩]; exact hw1
      · rw [if_neg e2, if_neg (fun z => e2 z.2)]; exact hw2
    · rw [if_neg a1, if_neg (fun z => a1 z.1)]; exact hw2
