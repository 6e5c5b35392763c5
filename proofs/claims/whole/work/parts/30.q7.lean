/-! what becomes of a message: in both pictures the same -/
def vo_ob (m : pv_Msg) : Bool := decide (5 ≤ mkd m ∧ mkd m ≤ 8)
def vo_kb (L : List pv_Msg) (k i : Nat) : Bool := vo_ob (pq_get L i) && (decide (mln (pq_get L i) = mln (pq_get L k)) && decide (mto (pq_get L i) = mto (pq_get L k)))
def vo_kept (L : List pv_Msg) (k : Nat) : Bool := vo_ob (pq_get L k) && (List.range' 0 k).any (vo_kb L k)
def vo_stl (v : pv_V) (m : pv_Msg) : Bool := if mto m = 4 then decide ((mkd m = 0 ∨ mkd m = 1) ∧ v.2.2 5 0 (mln m) = 3) else if mkd m = 5 ∨ mkd m = 6 then decide (4 ≤ v.2.2 0 (mto m) (mln m) ∧ v.2.2 0 (mto m) (mln m) ≤ 8) else if mkd m = 7 then decide (v.2.2 0 (mto m) (mln m) = 4) else false
def vo_fate (v : pv_V) (k : Nat) : Int32 := if vo_kept v.1 k = true then 0 else if vo_stl v (pq_get v.1 k) = true then 1 else 2
/-- small numbers in the messages -/
def vo_sm (v : pv_V) : Prop := ∀ k, k < v.1.length → mkd (pq_get v.1 k) ≤ 11 ∧ mln (pq_get v.1 k) < 4 ∧ mto (pq_get v.1 k) ≤ 4 ∧ mrq (pq_get v.1 k) < 4
theorem px_m {v : pv_V} {X : zXS} {k : Nat} (h : PX v X) (hk : k < v.1.length) : X 0 0 k = nI (mkd (pq_get v.1 k)) ∧ X 0 1 k = nI (mln (pq_get v.1 k)) ∧ X 0 3 k = nI (mto (pq_get v.1 k)) ∧ X 0 4 k = nI (mrq (pq_get v.1 k)) ∧ X 0 5 k = nI (mnm (pq_get v.1 k)) ∧ X 0 6 k = mcv (pq_get v.1 k) :=
  ⟨h 0 0 k (by unfold pq_xd; omega), h 0 1 k (by unfold pq_xd; omega), h 0 3 k (by unfold pq_xd; omega), h 0 4 k (by unfold pq_xd; omega), h 0 5 k (by unfold pq_xd; omega), h 0 6 k (by unfold pq_xd; omega)⟩
theorem pm_m {v : pv_V} {M : zMS} {k : Nat} (h : PM v M) (hk : k < v.1.length) : M 16 k = nI (mkd (pq_get v.1 k)) ∧ M 17 k = nI (mln (pq_get v.1 k)) ∧ M 19 k = nI (mto (pq_get v.1 k)) ∧ M 20 k = nI (mrq (pq_get v.1 k)) ∧ M 21 k = nI (mnm (pq_get v.1 k)) ∧ M 22 k = mcv (pq_get v.1 k) :=
  ⟨h 16 k (by unfold pq_md; omega), h 17 k (by unfold pq_md; omega), h 19 k (by unfold pq_md; omega), h 20 k (by unfold pq_md; omega), h 21 k (by unfold pq_md; omega), h 22 k (by unfold pq_md; omega)⟩
theorem px_ord {v : pv_V} {X : zXS} {M : zMS} {k : Nat} (h : PX v X) (hs : vo_sm v) (hb : v.1.length < 2 ^ 28) (hk : k < v.1.length) : r_A_isOrdered X M (nI k) = if vo_ob (pq_get v.1 k) = true then 1 else 0 := by
  have hm := (px_m h hk).1
  have h1 := (hs k hk).1
  unfold r_A_isOrdered vo_ob
  rw [nI_clamp (by omega), hm]
  have q5 : (nI (mkd (pq_get v.1 k)) < 5) ↔ mkd (pq_get v.1 k) < 5 := nI_ltI (b := 5) (by omega) (by omega)
  have q8 : (8 < nI (mkd (pq_get v.1 k))) ↔ 8 < mkd (pq_get v.1 k) := nI_ltI (a := 8) (by omega) (by omega)
  simp only [q5, q8, decide_eq_true_eq]
  by_cases a : mkd (pq_get v.1 k) < 5
  · rw [if_pos a, if_neg (by omega)]
  · by_cases b : 8 < mkd (pq_get v.1 k)
    · rw [if_neg a, if_pos b, if_neg (by omega)]
    · rw [if_neg a, if_neg b, if_pos (by omega)]
theorem pm_ord {v : pv_V} {M : zMS} {k : Nat} (h : PM v M) (hs : vo_sm v) (hk : k < v.1.length) : m_ord (M 16 k) = if vo_ob (pq_get v.1 k) = true then 1 else 0 := by
  have hm := (pm_m h hk).1
  have h1 := (hs k hk).1
  unfold m_ord vo_ob
  rw [hm]
  have q5 : (nI (mkd (pq_get v.1 k)) ≤ 4) ↔ mkd (pq_get v.1 k) ≤ 4 := nI_leI (b := 4) (by omega) (by omega)
  have q8 : (9 ≤ nI (mkd (pq_get v.1 k))) ↔ 9 ≤ mkd (pq_get v.1 k) := nI_leI (a := 9) (by omega) (by omega)
  simp only [q5, q8, decide_eq_true_eq]
  by_cases a : mkd (pq_get v.1 k) ≤ 4
  · rw [if_pos a, if_neg (by omega)]
  · by_cases b : 9 ≤ mkd (pq_get v.1 k)
    · rw [if_neg a, if_pos b, if_neg (by omega)]
    · rw [if_neg a, if_neg b, if_pos (by omega)]
theorem i01 (b : Bool) : ((if b = true then (1 : Int32) else 0) = 0) ↔ b = false := by
  cases b <;> decide
theorem px_kbl {v : pv_V} {X : zXS} {M : zMS} {k : Nat} (h : PX v X) (hs : vo_sm v) (hb : v.1.length < 2 ^ 28) (hk : k < v.1.length) : ∀ c i, i + c = k → x_kbl X M k c i = if (List.range' i c).any (vo_kb v.1 k) = true then 1 else 0 := by
  intro c
  induction c with
  | zero => intro i _; rfl
  | succ c ih =>
    intro i hi
    have hi2 : i < v.1.length := by omega
    obtain ⟨-, a1, a3, -⟩ := px_m h hi2
    obtain ⟨-, b1, b3, -⟩ := px_m h hk
    have s1 := hs i hi2
    have s2 := hs k hk
    have ql : (nI (mln (pq_get v.1 i)) = nI (mln (pq_get v.1 k))) ↔ mln (pq_get v.1 i) = mln (pq_get v.1 k) := nI_eq (by omega) (by omega)
    have qt : (nI (mto (pq_get v.1 i)) = nI (mto (pq_get v.1 k))) ↔ mto (pq_get v.1 i) = mto (pq_get v.1 k) := nI_eq (by omega) (by omega)
    rw [x_kbl, px_ord h hs hb hi2, nI_clamp (show i < 2 ^ 31 by omega), nI_clamp (show k < 2 ^ 31 by omega), a1, a3, b1, b3, ih (i + 1) (by omega), List.range'_succ, List.any_cons]
    simp only [i01, ql, qt]
    generalize (List.range' (i + 1) c).any (vo_kb v.1 k) = z
    unfold vo_kb
    by_cases e1 : vo_ob (pq_get v.1 i) = false
    · simp [e1]
    · have e1' : vo_ob (pq_get v.1 i) = true := by revert e1; cases vo_ob (pq_get v.1 i) <;> simp
      by_cases e2 : mln (pq_get v.1 i) = mln (pq_get v.1 k)
      · by_cases e3 : mto (pq_get v.1 i) = mto (pq_get v.1 k)
        · simp [e1', e2, e3]
        · simp [e1', e2, e3]
      · simp [e1', e2]
theorem px_kept {v : pv_V} {X : zXS} {M : zMS} {k : Nat} (h : PX v X) (hs : vo_sm v) (hb : v.1.length < 2 ^ 28) (hk : k < v.1.length) : r_A_keepsBack X M k = if vo_kept v.1 k = true then 1 else 0 := by
  unfold r_A_keepsBack vo_kept
  rw [px_ord h hs hb hk, px_kbl h hs hb hk k 0 (by omega)]
  simp only [i01]
  by_cases e : vo_ob (pq_get v.1 k) = false
  · simp [e]
  · have e' : vo_ob (pq_get v.1 k) = true := by revert e; cases vo_ob (pq_get v.1 k) <;> simp
    simp [e']
theorem pm_kbl {v : pv_V} {M : zMS} {k : Nat} (h : PM v M) (hs : vo_sm v) (hb : v.1.length < 2 ^ 28) (hk : k < v.1.length) : ∀ c i (b : Bool), i + c = k → m_kbl M k c i (if b = true then 1 else 0) = if (b || (List.range' i c).any (vo_kb v.1 k)) = true then 1 else 0 := by
  intro c
  induction c with
  | zero => intro i b _; rw [m_kbl]; simp
  | succ c ih =>
    intro i b hi
    have hi2 : i < v.1.length := by omega
    obtain ⟨-, a1, a3, -⟩ := pm_m h hi2
    obtain ⟨-, b1, b3, -⟩ := pm_m h hk
    have s1 := hs i hi2
    have s2 := hs k hk
    have ql : (nI (mln (pq_get v.1 i)) = nI (mln (pq_get v.1 k))) ↔ mln (pq_get v.1 i) = mln (pq_get v.1 k) := nI_eq (by omega) (by omega)
    have qt : (nI (mto (pq_get v.1 i)) = nI (mto (pq_get v.1 k))) ↔ mto (pq_get v.1 i) = mto (pq_get v.1 k) := nI_eq (by omega) (by omega)
    have e : m_kb1 M k i (if b = true then 1 else 0) = if (b || vo_kb v.1 k i) = true then 1 else 0 := by
      unfold m_kb1 vo_kb
      rw [nI_clamp (show i < 2 ^ 31 by omega), nI_clamp (show k < 2 ^ 31 by omega), pm_ord h hs hi2, a1, a3, b1, b3]
      simp only [i01, ql, qt]
      cases b
      · by_cases e1 : vo_ob (pq_get v.1 i) = false
        · simp [e1]
        · have e1' : vo_ob (pq_get v.1 i) = true := by revert e1; cases vo_ob (pq_get v.1 i) <;> simp
          by_cases e2 : mln (pq_get v.1 i) = mln (pq_get v.1 k)
          · by_cases e3 : mto (pq_get v.1 i) = mto (pq_get v.1 k)
            · simp [e1', e2, e3]
            · simp [e1', e2, e3]
          · simp [e1', e2]
      · simp
    rw [m_kbl, e, ih (i + 1) _ (by omega), List.range'_succ, List.any_cons, Bool.or_assoc]
theorem pm_kept {v : pv_V} {M : zMS} {k : Nat} (h : PM v M) (hs : vo_sm v) (hb : v.1.length < 2 ^ 28) (hk : k < v.1.length) : m_kept M k = if vo_kept v.1 k = true then 1 else 0 := by
  have e := pm_kbl h hs hb hk k 0 false (by omega)
  unfold m_kept m_kbr vo_kept
  rw [show (0 : Int32) = (if false = true then (1 : Int32) else 0) from rfl, e, nI_clamp (show k < 2 ^ 31 by omega), pm_ord h hs hk]
  cases vo_ob (pq_get v.1 k) <;> cases (List.range' 0 k).any (vo_kb v.1 k) <;> simp
set_option maxRecDepth 100000 in
theorem m_bec_56 : ∀ s, s ≤ 12 → ((m_bec 5 (nI s) = 15) ↔ (4 ≤ s ∧ s ≤ 8)) ∧ ((m_bec 6 (nI s) = 15) ↔ (4 ≤ s ∧ s ≤ 8)) ∧ ((m_bec 7 (nI s) = 15) ↔ s = 4) := by decide
theorem px_stl {v : pv_V} {X : zXS} {M : zMS} {k : Nat} (h : PX v X) (hs : vo_sm v) (hb : v.1.length < 2 ^ 28) (hk : k < v.1.length) (hst : ∀ c l, c < 4 → l < 4 → v.2.2 0 c l ≤ 12) (hkp : ∀ l, l < 4 → v.2.2 5 0 l ≤ 3) : r_S_isStalled X M k = if vo_stl v (pq_get v.1 k) = true then 1 else 0 := by
  obtain ⟨a0, a1, a3, -⟩ := px_m h hk
  obtain ⟨s0, s1, s3, s4⟩ := hs k hk
  unfold r_S_isStalled vo_stl
  have p0 : r_A_part X M (nI k) 0 = nI (mkd (pq_get v.1 k)) := by unfold r_A_part; rw [nI_clamp (by omega)]; exact a0
  have p1 : r_A_part X M (nI k) 1 = nI (mln (pq_get v.1 k)) := by unfold r_A_part; rw [nI_clamp (by omega)]; exact a1
  have p3 : r_A_part X M (nI k) 3 = nI (mto (pq_get v.1 k)) := by unfold r_A_part; rw [nI_clamp (by omega)]; exact a3
  rw [p0, p1, p3]
  generalize pq_get v.1 k = m at *
  have q4 : (nI (mto m) = 4) ↔ mto m = 4 := nI_is (by omega) (by omega) rfl
  have k0 : (nI (mkd m) = 0) ↔ mkd m = 0 := nI_is (by omega) (by omega) rfl
  have k1 : (nI (mkd m) = 1) ↔ mkd m = 1 := nI_is (by omega) (by omega) rfl
  have k5 : (nI (mkd m) = 5) ↔ mkd m = 5 := nI_is (by omega) (by omega) rfl
  have k6 : (nI (mkd m) = 6) ↔ mkd m = 6 := nI_is (by omega) (by omega) rfl
  have k7 : (nI (mkd m) = 7) ↔ mkd m = 7 := nI_is (by omega) (by omega) rfl
  by_cases e4 : mto m = 4
  · rw [if_pos (q4.mpr e4), if_pos e4]
    unfold r_H_stalls
    rw [nI_clamp (show mln m < 2 ^ 31 by omega), (px_h h s1).2.1]
    have q3 : (nI (v.2.2 5 0 (mln m)) = 3) ↔ v.2.2 5 0 (mln m) = 3 := nI_is (by have := hkp _ s1; omega) (by omega) rfl
    simp only [k0, k1, q3]
    by_cases a : mkd m = 0
    · simp [a]
    · by_cases b : mkd m = 1
      · simp [b]
      · simp [a, b]
  · rw [if_neg (fun z => e4 (q4.mp z)), if_neg e4]
    have hc : mto m < 4 := by omega
    unfold r_C_stalls
    rw [nI_clamp (show mto m < 2 ^ 31 by omega), nI_clamp (show mln m < 2 ^ 31 by omega), (px_v3 h hc s1).1]
    have hx := hst _ _ hc s1
    have l4 : (nI (v.2.2 0 (mto m) (mln m)) < 4) ↔ v.2.2 0 (mto m) (mln m) < 4 := nI_ltI (b := 4) (by omega) (by omega)
    have l8 : (8 < nI (v.2.2 0 (mto m) (mln m))) ↔ 8 < v.2.2 0 (mto m) (mln m) := nI_ltI (a := 8) (by omega) (by omega)
    have e44 : (nI (v.2.2 0 (mto m) (mln m)) = 4) ↔ v.2.2 0 (mto m) (mln m) = 4 := nI_is (by omega) (by omega) rfl
    simp only [k5, k6, k7, l4, l8, e44]
    have two : (if v.2.2 0 (mto m) (mln m) < 4 then (0 : Int32) else if 8 < v.2.2 0 (mto m) (mln m) then 0 else 1) = if decide (4 ≤ v.2.2 0 (mto m) (mln m) ∧ v.2.2 0 (mto m) (mln m) ≤ 8) = true then 1 else 0 := by
      by_cases a : v.2.2 0 (mto m) (mln m) < 4
      · rw [if_pos a, if_neg (by simp; omega)]
      · by_cases b : 8 < v.2.2 0 (mto m) (mln m)
        · rw [if_neg a, if_pos b, if_neg (by simp; omega)]
        · rw [if_neg a, if_neg b, if_pos (by simp; omega)]
    by_cases a : mkd m = 5
    · rw [if_pos a, if_pos (Or.inl a)]; exact two
    · by_cases b : mkd m = 6
      · rw [if_neg a, if_pos b, if_pos (Or.inr b)]; exact two
      · rw [if_neg a, if_neg b, if_neg (show ¬ (mkd m = 5 ∨ mkd m = 6) by omega)]
        by_cases c : mkd m = 7
        · rw [if_pos c, if_pos c]; simp
        · rw [if_neg c, if_neg c]; rfl
theorem pm_stl {v : pv_V} {X : zXS} {M : zMS} {k : Nat} (h : PM v M) (hs : vo_sm v) (hb : v.1.length < 2 ^ 28) (hk : k < v.1.length) (hst : ∀ c l, c < 4 → l < 4 → v.2.2 0 c l ≤ 12) (hkp : ∀ l, l < 4 → v.2.2 5 0 l ≤ 3) : r_M_stalls X M k = if vo_stl v (pq_get v.1 k) = true then 1 else 0 := by
  obtain ⟨a0, a1, a3, -⟩ := pm_m h hk
  obtain ⟨s0, s1, s3, s4⟩ := hs k hk
  unfold r_M_stalls vo_stl
  rw [nI_clamp (show k < 2 ^ 31 by omega), a0, a1, a3]
  generalize pq_get v.1 k = m at *
  have q4 : (nI (mto m) = 4) ↔ mto m = 4 := nI_is (by omega) (by omega) rfl
  have k2 : (2 ≤ nI (mkd m)) ↔ 2 ≤ mkd m := nI_leI (a := 2) (by omega) (by omega)
  have k5 : (nI (mkd m) < 5) ↔ mkd m < 5 := nI_ltI (b := 5) (by omega) (by omega)
  have k7 : (7 < nI (mkd m)) ↔ 7 < mkd m := nI_ltI (a := 7) (by omega) (by omega)
  by_cases e4 : mto m = 4
  · rw [if_pos (q4.mpr e4), if_pos e4, nI_clamp (show mln m < 2 ^ 31 by omega), (pm_h h s1).2.1]
    have q3 : (nI (v.2.2 5 0 (mln m)) = 3) ↔ v.2.2 5 0 (mln m) = 3 := nI_is (by have := hkp _ s1; omega) (by omega) rfl
    simp only [k2, q3]
    by_cases a : 2 ≤ mkd m
    · rw [if_pos a, if_neg (by simp; omega)]
    · rw [if_neg a]
      by_cases b : v.2.2 5 0 (mln m) = 3
      · rw [if_pos b, if_pos (by simp; omega)]
      · rw [if_neg b, if_neg (by simp; omega)]
  · rw [if_neg (fun z => e4 (q4.mp z)), if_neg e4]
    have hc : mto m < 4 := by omega
    rw [pm_at4 hc s1, (pm_v0 h hc s1).1]
    have hx := hst _ _ hc s1
    obtain ⟨g5, g6, g7⟩ := m_bec_56 _ hx
    simp only [k5, k7]
    by_cases a : mkd m < 5
    · rw [if_pos a, if_neg (show ¬ (mkd m = 5 ∨ mkd m = 6) by omega), if_neg (show ¬ mkd m = 7 by omega)]; rfl
    · by_cases b : 7 < mkd m
      · rw [if_neg a, if_pos b, if_neg (show ¬ (mkd m = 5 ∨ mkd m = 6) by omega), if_neg (show ¬ mkd m = 7 by omega)]; rfl
      · rw [if_neg a, if_neg b]
        rcases (show mkd m = 5 ∨ mkd m = 6 ∨ mkd m = 7 by omega) with c | c | c
        · rw [c, show nI 5 = 5 from rfl, if_pos (Or.inl rfl)]
          simp only [g5, decide_eq_true_eq]
        · rw [c, show nI 6 = 6 from rfl, if_pos (Or.inr rfl)]
          simp only [g6, decide_eq_true_eq]
        · rw [c, show nI 7 = 7 from rfl, if_neg (show ¬ ((7 : Nat) = 5 ∨ (7 : Nat) = 6) by decide), if_pos (show (7 : Nat) = 7 from rfl)]
          simp only [g7, decide_eq_true_eq]
theorem px_fate {v : pv_V} {X : zXS} {M : zMS} {k : Nat} (h : PX v X) (hs : vo_sm v) (hb : v.1.length < 2 ^ 28) (hk : k < v.1.length) (hst : ∀ c l, c < 4 → l < 4 → v.2.2 0 c l ≤ 12) (hkp : ∀ l, l < 4 → v.2.2 5 0 l ≤ 3) : r_S_fateOf X M k = vo_fate v k := by
  unfold r_S_fateOf vo_fate
  rw [px_kept h hs hb hk, px_stl h hs hb hk hst hkp]
  cases vo_kept v.1 k <;> cases vo_stl v (pq_get v.1 k) <;> rfl
theorem pm_fate {v : pv_V} {X : zXS} {M : zMS} {k : Nat} (h : PM v M) (hs : vo_sm v) (hb : v.1.length < 2 ^ 28) (hk : k < v.1.length) (hst : ∀ c l, c < 4 → l < 4 → v.2.2 0 c l ≤ 12) (hkp : ∀ l, l < 4 → v.2.2 5 0 l ≤ 3) : r_M_move X M k = vo_fate v k := by
  unfold r_M_move vo_fate
  rw [pm_kept h hs hb hk, pm_stl h hs hb hk hst hkp]
  cases vo_kept v.1 k <;> cases vo_stl v (pq_get v.1 k) <;> rfl
