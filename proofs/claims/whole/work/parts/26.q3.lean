/-! Steps of the abstract value and their pictures: the cores -/
theorem pv_u3_self {α : Type} (f : Nat → Nat → Nat → α) (t c l : Nat) : pv_u3 f t c l (f t c l) = f := by
  funext t' c' l'
  unfold pv_u3
  split
  · next e => obtain ⟨rfl, rfl, rfl⟩ := e; rfl
  · rfl
theorem pv_u3_comm {α : Type} (f : Nat → Nat → Nat → α) {t c l t2 c2 l2 : Nat} (x y : α) (h : t ≠ t2) : pv_u3 (pv_u3 f t c l x) t2 c2 l2 y = pv_u3 (pv_u3 f t2 c2 l2 y) t c l x := by
  funext t' c' l'
  unfold pv_u3
  by_cases h1 : t' = t ∧ c' = c ∧ l' = l
  · have h2 : ¬ (t' = t2 ∧ c' = c2 ∧ l' = l2) := by omega
    rw [if_neg h2, if_pos h1, if_pos h1]
  · rw [if_neg h1, if_neg h1]
theorem pv_sI_comm (v : pv_V) {t c l t2 c2 l2 : Nat} (x y : Int32) (h : t ≠ t2) : pv_sI (pv_sI v t c l x) t2 c2 l2 y = pv_sI (pv_sI v t2 c2 l2 y) t c l x := by
  simp only [pv_sI, pv_u3_comm _ _ _ h]
theorem pv_sN_comm (v : pv_V) {t c l t2 c2 l2 : Nat} (x y : Nat) (h : t ≠ t2) : pv_sN (pv_sN v t c l x) t2 c2 l2 y = pv_sN (pv_sN v t2 c2 l2 y) t c l x := by
  simp only [pv_sN, pv_u3_comm _ _ _ h]
theorem pv_sN_self (v : pv_V) (t c l : Nat) : pv_sN v t c l (v.2.2 t c l) = v := by
  simp only [pv_sN, pv_u3_self]
theorem pv_del_snd {v : pv_V} {k : Nat} (m : pv_Msg) (h : k < v.1.length) : pv_del (pv_snd v m) k = pv_snd (pv_del v k) m := by
  simp only [pv_del, pv_snd, List.eraseIdx_append_of_lt_length h]
/-- an operation is done -/
def vo_fin (v : pv_V) (c l : Nat) : pv_V :=
  pv_sN (pv_sI (if v.2.2 4 c 0 = 0 then pv_sI v 4 c 0 (v.2.1 1 c l)
    else (if v.2.2 0 c l = 2 then pv_sN (pv_sI (pv_sI v 4 c 0 (if v.2.2 4 c 0 = 1 then v.2.1 2 c 0 else v.2.1 1 c l)) 1 c l (if v.2.2 4 c 0 = 1 then v.2.1 2 c 0 else v.2.1 1 c l + v.2.1 2 c 0)) 0 c l 3
      else pv_sI (pv_sI v 4 c 0 (if v.2.2 4 c 0 = 1 then v.2.1 2 c 0 else v.2.1 1 c l)) 1 c l (if v.2.2 4 c 0 = 1 then v.2.1 2 c 0 else v.2.1 1 c l + v.2.1 2 c 0))) 3 c 0 (v.2.1 3 c 0 + 1)) 3 c 0 0
theorem nI_is {n k : Nat} (hn : n < 2 ^ 31) (hk : k < 2 ^ 31) {x : Int32} (hx : x = nI k) : (nI n = x) ↔ n = k := by
  rw [hx]; exact nI_eq hn hk
theorem px_at {v : pv_V} {X : zXS} (h : PX v X) (t c l : Nat) (hd : pq_xd v.1.length t c l) : X t c l = pq_xe v t c l := h t c l hd
theorem px_fin1 {v : pv_V} {X : zXS} {M : zMS} {c l : Nat} (h : PX v X) (hc : c < 4) (hl : l < 4) (ho : v.2.2 4 c 0 ≤ 2) (hs : v.2.2 0 c l ≤ 12) : PX (vo_fin v c l) (x_C_finish X M c (nI l)) := by
  have i : (nI l).toNatClampNeg = l := nI_clamp (by omega)
  have h7 : X 7 c 0 = nI (v.2.2 4 c 0) := h 7 c 0 (by unfold pq_xd; omega)
  have h8 : X 8 c 0 = v.2.1 2 c 0 := h 8 c 0 (by unfold pq_xd; omega)
  have h4 : X 4 c l = v.2.1 1 c l := h 4 c l (by unfold pq_xd; omega)
  have h3 : X 3 c l = nI (v.2.2 0 c l) := h 3 c l (by unfold pq_xd; omega)
  have h9 : X 9 c 0 = v.2.1 3 c 0 := h 9 c 0 (by unfold pq_xd; omega)
  have q0 : (nI (v.2.2 4 c 0) = 0) ↔ v.2.2 4 c 0 = 0 := nI_is (by omega) (by omega) rfl
  have q1 : (nI (v.2.2 4 c 0) = 1) ↔ v.2.2 4 c 0 = 1 := nI_is (by omega) (by omega) rfl
  have q2 : (nI (v.2.2 0 c l) = 2) ↔ v.2.2 0 c l = 2 := nI_is (by omega) (by omega) rfl
  have r3 : ∀ z : Int32, (u3 X 10 c 0 z) 3 c l = nI (v.2.2 0 c l) := fun z => h3
  simp only [x_C_finish, jX_C_finish_60_1, x_C_change, jS0_C_finish_24_1, jS0_C_finish_57_1, i, h7, h8, h4, q0, q1, r3, q2]
  unfold vo_fin
  by_cases e0 : v.2.2 4 c 0 = 0
  · have e1 : ¬ v.2.2 4 c 0 = 1 := by omega
    simp only [eq_true e0, eq_false e1, ↓reduceIte]
    rw [show (u3 X 10 c 0 (v.2.1 1 c l)) 9 c 0 = v.2.1 3 c 0 from h9]
    exact px_wt (x := 0) (px_fin (px_res h))
  · simp only [eq_false e0, ↓reduceIte]
    by_cases e2 : v.2.2 0 c l = 2
    · simp only [eq_true e2, ↓reduceIte]
      generalize (if v.2.2 4 c 0 = 1 then v.2.1 2 c 0 else v.2.1 1 c l) = a
      generalize (if v.2.2 4 c 0 = 1 then v.2.1 2 c 0 else v.2.1 1 c l + v.2.1 2 c 0) = b
      rw [show (u3 (u3 (u3 X 10 c 0 a) 4 c l b) 3 c l 3) 9 c 0 = v.2.1 3 c 0 from h9]
      exact px_wt (x := 0) (px_fin (px_st (x := 3) (px_val (px_res h))))
    · simp only [eq_false e2, ↓reduceIte]
      generalize (if v.2.2 4 c 0 = 1 then v.2.1 2 c 0 else v.2.1 1 c l) = a
      generalize (if v.2.2 4 c 0 = 1 then v.2.1 2 c 0 else v.2.1 1 c l + v.2.1 2 c 0) = b
      rw [show (u3 (u3 X 10 c 0 a) 4 c l b) 9 c 0 = v.2.1 3 c 0 from h9]
      exact px_wt (x := 0) (px_fin (px_val (px_res h)))
theorem pm_fin1 {v : pv_V} {X : zXS} {M : zMS} {c l : Nat} (h : PM v M) (hc : c < 4) (hl : l < 4) (ho : v.2.2 4 c 0 ≤ 2) (hs : v.2.2 4 c 0 = 0 ∨ v.2.2 0 c l = 2 ∨ v.2.2 0 c l = 3) : PM (vo_fin v c l) (m_M_finish X M (nI c) (nI l)) := by
  have ic : (nI c).toNatClampNeg = c := nI_clamp (by omega)
  have ia : (4 * nI c + nI l).toNatClampNeg = 4 * c + l := by rw [show (4 : Int32) = nI 4 from rfl, pk_mul, nI_add, nI_clamp (by omega)]
  have hd := pq_div (c := c) hl
  have h7 : M 7 c = nI (v.2.2 4 c 0) := h 7 c (by unfold pq_md; omega)
  have h8 : M 8 c = v.2.1 2 c 0 := h 8 c (by unfold pq_md; omega)
  have h1 : M 1 (4 * c + l) = v.2.1 1 c l := by rw [h 1 _ (by unfold pq_md; omega)]; simp only [pq_me, hd.1, hd.2]
  have h9 : M 9 c = v.2.1 3 c 0 := h 9 c (by unfold pq_md; omega)
  have q1 : (nI (v.2.2 4 c 0) = 1) ↔ v.2.2 4 c 0 = 1 := nI_is (by omega) (by omega) rfl
  have q0 : (nI (v.2.2 4 c 0) ≤ 0) ↔ v.2.2 4 c 0 = 0 := by
    have := nI_leI (a := v.2.2 4 c 0) (b := 0) (by omega) (by omega)
    rw [show nI 0 = 0 from rfl] at this
    rw [this]; omega
  simp only [m_M_finish, jM_M_finish_82_1, jS0_M_finish_74_1, jL4_M_finish_32_1, ic, ia, h7, h8, h1, q0, q1]
  unfold vo_fin
  by_cases e0 : v.2.2 4 c 0 = 0
  · have e1 : ¬ v.2.2 4 c 0 = 1 := by omega
    simp only [eq_true e0, eq_false e1, ↓reduceIte, h9]
    exact pm_wt (x := 0) (pm_fin (pm_res h))
  · have h3 : v.2.2 0 c l = 2 ∨ v.2.2 0 c l = 3 := by omega
    have key : ∀ (a b : Int32), PM (pv_sN (pv_sI (pv_sI v 4 c 0 a) 1 c l b) 0 c l 3) (u2 (u2 (u2 M 1 (4 * c + l) b) 0 (4 * c + l) 3) 10 c a) := by
      intro a b
      have := pm_res (c := c) (x := a) (pm_st (c := c) (x := 3) hl (pm_val (c := c) (x := b) hl h))
      rw [pv_sI_comm _ _ _ (by decide)]
      exact this
    have e2 : (if v.2.2 0 c l = 2 then pv_sN (pv_sI (pv_sI v 4 c 0 (if v.2.2 4 c 0 = 1 then v.2.1 2 c 0 else v.2.1 1 c l)) 1 c l (if v.2.2 4 c 0 = 1 then v.2.1 2 c 0 else v.2.1 1 c l + v.2.1 2 c 0)) 0 c l 3
      else pv_sI (pv_sI v 4 c 0 (if v.2.2 4 c 0 = 1 then v.2.1 2 c 0 else v.2.1 1 c l)) 1 c l (if v.2.2 4 c 0 = 1 then v.2.1 2 c 0 else v.2.1 1 c l + v.2.1 2 c 0)) = pv_sN (pv_sI (pv_sI v 4 c 0 (if v.2.2 4 c 0 = 1 then v.2.1 2 c 0 else v.2.1 1 c l)) 1 c l (if v.2.2 4 c 0 = 1 then v.2.1 2 c 0 else v.2.1 1 c l + v.2.1 2 c 0)) 0 c l 3 := by
      rcases h3 with e | e
      · rw [if_pos e]
      · rw [if_neg (by omega)]
        generalize (if v.2.2 4 c 0 = 1 then v.2.1 2 c 0 else v.2.1 1 c l) = a
        generalize (if v.2.2 4 c 0 = 1 then v.2.1 2 c 0 else v.2.1 1 c l + v.2.1 2 c 0) = b
        have := pv_sN_self (pv_sI (pv_sI v 4 c 0 a) 1 c l b) 0 c l
        rw [show (pv_sI (pv_sI v 4 c 0 a) 1 c l b).2.2 0 c l = 3 from e] at this
        exact this.symm
    rw [if_neg e0, e2]
    have e3 : ∀ b : Int32, (u2 (u2 M 1 (4 * c + l) b) 0 (4 * c + l) 3) 9 c = v.2.1 3 c 0 := fun b => h9
    simp only [eq_false e0, ↓reduceIte, e3]
    have e4 : (if v.2.2 4 c 0 = 1 then v.2.1 2 c 0 else (if v.2.2 4 c 0 = 1 then v.2.1 2 c 0 else v.2.1 1 c l) + v.2.1 2 c 0) = (if v.2.2 4 c 0 = 1 then v.2.1 2 c 0 else v.2.1 1 c l + v.2.1 2 c 0) := by
      split <;> rfl
    rw [e4]
    exact pm_wt (x := 0) (pm_fin (key _ _))
def vo_ack (v : pv_V) (c l : Nat) : pv_V := if v.2.2 2 c l = v.2.2 1 c l then vo_fin (pv_sN v 0 c l 3) c l else v
theorem nI_sub0 {a b : Nat} (ha : a < 2 ^ 31) (hb : b < 2 ^ 31) : (nI a - nI b = 0) ↔ a = b := by
  constructor
  · intro h
    have h2 : nI a = nI b := by
      have h3 : nI a - nI b + nI b = 0 + nI b := by rw [h]
      rw [Int32.sub_add_cancel, Int32.zero_add] at h3
      exact h3
    exact (nI_eq ha hb).mp h2
  · rintro rfl
    exact Int32.sub_self _
theorem px_ack {v : pv_V} {X : zXS} {M : zMS} {c l : Nat} (h : PX v X) (hc : c < 4) (hl : l < 4) (ho : v.2.2 4 c 0 ≤ 2) (hn : v.2.2 2 c l < 2 ^ 31) (hg : v.2.2 1 c l < 2 ^ 31) : PX (vo_ack v c l) (x_C_ownIfNothingOwed X M c (nI l)) := by
  have i : (nI l).toNatClampNeg = l := nI_clamp (by omega)
  have h5 : X 5 c l = nI (v.2.2 2 c l) - nI (v.2.2 1 c l) := h 5 c l (by unfold pq_xd; omega)
  unfold vo_ack x_C_ownIfNothingOwed
  rw [i, h5]
  by_cases e : v.2.2 2 c l = v.2.2 1 c l
  · rw [if_pos e, if_pos ((nI_sub0 hn hg).mpr e)]
    exact px_fin1 (px_st (x := 3) h) hc hl ho (by simp [pv_sN, pv_u3])
  · rw [if_neg e, if_neg (fun z => e ((nI_sub0 hn hg).mp z))]
    exact h
theorem pm_at4 {c l : Nat} (hc : c < 4) (hl : l < 4) : (4 * nI c + nI l).toNatClampNeg = 4 * c + l := by
  rw [show (4 : Int32) = nI 4 from rfl, pk_mul, nI_add, nI_clamp (by omega)]
theorem pm_v0 {v : pv_V} {M : zMS} {c l : Nat} (h : PM v M) (hc : c < 4) (hl : l < 4) : M 0 (4 * c + l) = nI (v.2.2 0 c l) ∧ M 1 (4 * c + l) = v.2.1 1 c l ∧ M 2 (4 * c + l) = nI (v.2.2 2 c l) ∧ M 3 (4 * c + l) = nI (v.2.2 1 c l) := by
  have hd := pq_div (c := c) hl
  refine ⟨?_, ?_, ?_, ?_⟩
  · rw [h 0 _ (by unfold pq_md; omega)]; simp only [pq_me, hd.1, hd.2]
  · rw [h 1 _ (by unfold pq_md; omega)]; simp only [pq_me, hd.1, hd.2]
  · rw [h 2 _ (by unfold pq_md; omega)]; simp only [pq_me, hd.1, hd.2]
  · rw [h 3 _ (by unfold pq_md; omega)]; simp only [pq_me, hd.1, hd.2]
theorem pm_ack {v : pv_V} {X : zXS} {M : zMS} {c l : Nat} (h : PM v M) (hc : c < 4) (hl : l < 4) (ho : v.2.2 4 c 0 ≤ 2) (hn : v.2.2 2 c l < 2 ^ 31) (hg : v.2.2 1 c l < 2 ^ 31) : PM (vo_ack v c l) (m_M_acknowledged X M (nI c) (nI l)) := by
  obtain ⟨-, -, h2, h3⟩ := pm_v0 h hc hl
  unfold vo_ack m_M_acknowledged
  rw [pm_at4 hc hl, h2, h3]
  by_cases e : v.2.2 2 c l = v.2.2 1 c l
  · rw [if_pos e, if_pos (by rw [e])]
    exact pm_fin1 (pm_st (x := 3) hl h) hc hl ho (Or.inr (Or.inr (by simp [pv_sN, pv_u3])))
  · rw [if_neg e, if_neg (fun z => e ((nI_eq hg hn).mp z).symm)]
    exact h
def vo_dd (v : pv_V) (c l : Nat) : pv_V := if v.2.2 0 c l = 6 ∨ v.2.2 0 c l = 8 then vo_ack (pv_sN v 1 c l (v.2.2 1 c l + 1)) c l else pv_sN v 1 c l (v.2.2 1 c l + 1)
def vo_da (v : pv_V) (c l n : Nat) (x : Int32) : pv_V := if v.2.2 0 c l = 4 then vo_fin (pv_sN (pv_sI v 1 c l x) 0 c l 1) c l else vo_ack (pv_sN (pv_sN (pv_sI v 1 c l x) 2 c l n) 0 c l (if v.2.2 0 c l = 7 then 8 else 6)) c l
def vo_so (v : pv_V) (c l : Nat) (x : Int32) : pv_V := vo_fin (pv_sN (pv_sI v 1 c l x) 0 c l 2) c l
def vo_fr (v : pv_V) (c l r : Nat) : pv_V := pv_sN (pv_snd (pv_snd v (9, l, c, r, r, 0, v.2.1 1 c l)) (9, l, c, 4, r, 0, v.2.1 1 c l)) 0 c l (if v.2.2 0 c l ≤ 3 then 1 else 11)
def vo_fw (v : pv_V) (c l r : Nat) : pv_V := pv_sN (pv_snd v (9, l, c, r, r, 0, v.2.1 1 c l)) 0 c l (if v.2.2 0 c l ≤ 3 then 0 else 12)
def vo_dr (v : pv_V) (c l r : Nat) : pv_V := pv_sN (pv_snd v (11, l, c, r, r, 0, 0)) 0 c l (if v.2.2 0 c l = 7 then 5 else if v.2.2 0 c l = 11 then 12 else 0)
theorem px_v3 {v : pv_V} {X : zXS} {c l : Nat} (h : PX v X) (hc : c < 4) (hl : l < 4) : X 3 c l = nI (v.2.2 0 c l) ∧ X 4 c l = v.2.1 1 c l := ⟨h 3 c l (by unfold pq_xd; omega), h 4 c l (by unfold pq_xd; omega)⟩
theorem px_dd {v : pv_V} {X : zXS} {M : zMS} {c l : Nat} (h : PX v X) (hc : c < 4) (hl : l < 4) (ho : v.2.2 4 c 0 ≤ 2) (hs : v.2.2 0 c l ≤ 12) (hn : v.2.2 2 c l < 2 ^ 30) (hg : v.2.2 1 c l < 2 ^ 30) : PX (vo_dd v c l) (x_C_takeDropped X M c (nI l)) := by
  have i : (nI l).toNatClampNeg = l := nI_clamp (by omega)
  obtain ⟨h3, -⟩ := px_v3 h hc hl
  have q6 : (nI (v.2.2 0 c l) = 6) ↔ v.2.2 0 c l = 6 := nI_is (by omega) (by omega) rfl
  have q8 : (nI (v.2.2 0 c l) = 8) ↔ v.2.2 0 c l = 8 := nI_is (by omega) (by omega) rfl
  have hq := px_got h hc hl
  have ha := px_ack (M := M) hq hc hl ho (by simp [pv_sN, pv_u3]; omega) (by simp [pv_sN, pv_u3]; omega)
  simp only [x_C_takeDropped, i, h3, q6, q8]
  unfold vo_dd
  by_cases e6 : v.2.2 0 c l = 6
  · rw [if_pos e6, if_pos (Or.inl e6)]; exact ha
  · by_cases e8 : v.2.2 0 c l = 8
    · rw [if_neg e6, if_pos e8, if_pos (Or.inr e8)]; exact ha
    · rw [if_neg e6, if_neg e8, if_neg (by omega)]; exact hq
theorem px_da {v : pv_V} {X : zXS} {M : zMS} {c l n : Nat} {x : Int32} (h : PX v X) (hc : c < 4) (hl : l < 4) (ho : v.2.2 4 c 0 ≤ 2) (hs : v.2.2 0 c l ≤ 12) (hz : v.2.2 0 c l ≠ 4 → v.2.2 2 c l = 0) (hn : n < 2 ^ 30) (hg : v.2.2 1 c l < 2 ^ 30) : PX (vo_da v c l n x) (x_C_takeData X M c (nI l) (nI n) x) := by
  have i : (nI l).toNatClampNeg = l := nI_clamp (by omega)
  obtain ⟨h3, -⟩ := px_v3 h hc hl
  have q4 : (nI (v.2.2 0 c l) = 4) ↔ v.2.2 0 c l = 4 := nI_is (by omega) (by omega) rfl
  have q7 : (nI (v.2.2 0 c l) = 7) ↔ v.2.2 0 c l = 7 := nI_is (by omega) (by omega) rfl
  simp only [x_C_takeData, jS0_C_takeData_63_1, i, h3, q4, q7]
  unfold vo_da
  by_cases e4 : v.2.2 0 c l = 4
  · rw [if_pos e4, if_pos e4]
    exact px_fin1 (px_st (x := 1) (px_val h)) hc hl ho (by simp [pv_sN, pv_u3])
  · rw [if_neg e4, if_neg e4]
    have hw := px_need (n := n) (px_val (c := c) (l := l) (x := x) h) hc hl (hz e4)
    by_cases e7 : v.2.2 0 c l = 7
    · rw [if_pos e7, if_pos e7]
      exact px_ack (px_st (x := 8) hw) hc hl ho (by simp [pv_sN, pv_u3]; omega) (by simp [pv_sN, pv_u3, pv_sI]; omega)
    · rw [if_neg e7, if_neg e7]
      exact px_ack (px_st (x := 6) hw) hc hl ho (by simp [pv_sN, pv_u3]; omega) (by simp [pv_sN, pv_u3, pv_sI]; omega)
theorem px_so {v : pv_V} {X : zXS} {M : zMS} {c l : Nat} {x : Int32} (h : PX v X) (hc : c < 4) (hl : l < 4) (ho : v.2.2 4 c 0 ≤ 2) : PX (vo_so v c l x) (x_C_finish (u3 (u3 X 4 c l x) 3 c l 2) M c (nI l)) :=
  px_fin1 (px_st (x := 2) (px_val h)) hc hl ho (by simp [pv_sN, pv_u3])
theorem px_dr {v : pv_V} {X : zXS} {M : zMS} {c l r : Nat} (h : PX v X) (hb : v.1.length < 2 ^ 28) (hc : c < 4) (hl : l < 4) (hr : r < 4) (hs : v.2.2 0 c l ≤ 12) : PX (vo_dr v c l r) (x_C_dropFor X M c (nI r) (nI l)) := by
  have i : (nI l).toNatClampNeg = l := nI_clamp (by omega)
  obtain ⟨h3, -⟩ := px_v3 h hc hl
  have q7 : (nI (v.2.2 0 c l) = 7) ↔ v.2.2 0 c l = 7 := nI_is (by omega) (by omega) rfl
  have q11 : (nI (v.2.2 0 c l) = 11) ↔ v.2.2 0 c l = 11 := nI_is (by omega) (by omega) rfl
  have hw : PX (pv_snd v (11, l, c, r, r, 0, 0)) (x_A_send X M 11 (nI l) (nI c) (nI r) (nI r) 0 0) := px_snd h (by omega) hl hr (Nat.le_of_ble_eq_true rfl) rfl rfl rfl rfl rfl rfl
  simp only [x_C_dropFor, i, h3, q7, q11]
  unfold vo_dr
  by_cases e7 : v.2.2 0 c l = 7
  · rw [if_pos e7, if_pos e7]; exact px_st (x := 5) hw
  · by_cases e11 : v.2.2 0 c l = 11
    · rw [if_neg e7, if_pos e11, if_neg e7, if_pos e11]; exact px_st (x := 12) hw
    · rw [if_neg e7, if_neg e11, if_neg e7, if_neg e11]; exact px_st (x := 0) hw
theorem px_fw {v : pv_V} {X : zXS} {M : zMS} {c l r : Nat} (h : PX v X) (hb : v.1.length < 2 ^ 28) (hc : c < 4) (hl : l < 4) (hr : r < 4) (hs : v.2.2 0 c l = 2 ∨ v.2.2 0 c l = 3 ∨ v.2.2 0 c l = 9 ∨ v.2.2 0 c l = 10) : PX (vo_fw v c l r) (x_C_yieldTo X M c (nI r) (nI l)) := by
  have i : (nI l).toNatClampNeg = l := nI_clamp (by omega)
  obtain ⟨h3, h4⟩ := px_v3 h hc hl
  have q9 : (nI (v.2.2 0 c l) = 9) ↔ v.2.2 0 c l = 9 := nI_is (by omega) (by omega) rfl
  have q10 : (nI (v.2.2 0 c l) = 10) ↔ v.2.2 0 c l = 10 := nI_is (by omega) (by omega) rfl
  have hw : PX (pv_snd v (9, l, c, r, r, 0, v.2.1 1 c l)) (x_A_send X M 9 (nI l) (nI c) (nI r) (nI r) 0 (v.2.1 1 c l)) := px_snd h (by omega) hl hr (Nat.le_of_ble_eq_true rfl) rfl rfl rfl rfl rfl rfl
  simp only [x_C_yieldTo, jS0_C_yieldTo_44_1, r_C_isLeavingAlone, i, h3, h4, q9, q10]
  unfold vo_fw
  rcases hs with e | e | e | e <;> rw [e] <;> simp
  · exact px_st (x := 0) hw
  · exact px_st (x := 0) hw
  · exact px_st (x := 12) hw
  · exact px_st (x := 12) hw
theorem px_fr {v : pv_V} {X : zXS} {M : zMS} {c l r : Nat} (h : PX v X) (hb : v.1.length < 2 ^ 28) (hc : c < 4) (hl : l < 4) (hr : r < 4) (hs : v.2.2 0 c l = 2 ∨ v.2.2 0 c l = 3 ∨ v.2.2 0 c l = 9 ∨ v.2.2 0 c l = 10) : PX (vo_fr v c l r) (x_C_shareWith X M c (nI r) (nI l)) := by
  have i : (nI l).toNatClampNeg = l := nI_clamp (by omega)
  obtain ⟨h3, h4⟩ := px_v3 h hc hl
  have q9 : (nI (v.2.2 0 c l) = 9) ↔ v.2.2 0 c l = 9 := nI_is (by omega) (by omega) rfl
  have q10 : (nI (v.2.2 0 c l) = 10) ↔ v.2.2 0 c l = 10 := nI_is (by omega) (by omega) rfl
  have hw : PX (pv_snd v (9, l, c, r, r, 0, v.2.1 1 c l)) (x_A_send X M 9 (nI l) (nI c) (nI r) (nI r) 0 (v.2.1 1 c l)) := px_snd h (by omega) hl hr (Nat.le_of_ble_eq_true rfl) rfl rfl rfl rfl rfl rfl
  have hw2 : PX (pv_snd (pv_snd v (9, l, c, r, r, 0, v.2.1 1 c l)) (9, l, c, 4, r, 0, v.2.1 1 c l)) (x_A_send (x_A_send X M 9 (nI l) (nI c) (nI r) (nI r) 0 (v.2.1 1 c l)) M 9 (nI l) (nI c) 4 (nI r) 0 (v.2.1 1 c l)) := px_snd hw (by simp [pv_snd]; omega) hl hr (Nat.le_of_ble_eq_true rfl) rfl rfl rfl rfl rfl rfl
  simp only [x_C_shareWith, jS0_C_shareWith_67_1, r_C_isLeavingAlone, i, h3, h4, q9, q10]
  unfold vo_fr
  rcases hs with e | e | e | e <;> rw [e] <;> simp
  · exact px_st (x := 1) hw2
  · exact px_st (x := 1) hw2
  · exact px_st (x := 11) hw2
  · exact px_st (x := 11) hw2
