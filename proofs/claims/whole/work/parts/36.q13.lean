/-- LEFT is taken only when nothing older waits for the same core and line, and nothing younger may -/
theorem pv_left_first {v : pv_V} {k : Nat} (h : pv_Inv v) (hk : k < v.1.length) (h8 : mkd (pq_get v.1 k) = 8) (hn : vo_kept v.1 k = false) (n : pv_Msg) (hn' : n ∈ v.1) (h5 : 5 ≤ mkd n) (h7 : mkd n ≤ 7) (hl : mln n = mln (pq_get v.1 k)) (ht : mto n = mto (pq_get v.1 k)) : False := by
  obtain ⟨i, hi⟩ := List.getElem?_of_mem hn'
  have hil := pv_lt hi
  have hgi : pq_get v.1 i = n := by unfold pq_get; rw [hi]; rfl
  have hgk := pq_get_some hk
  rcases Nat.lt_trichotomy i k with z | z | z
  · unfold vo_kept at hn
    have o1 : vo_ob (pq_get v.1 k) = true := by unfold vo_ob; rw [h8]; decide
    rw [o1, Bool.true_and] at hn
    have h2 := List.any_eq_false.mp hn i (by simp [List.mem_range']; omega)
    apply h2
    unfold vo_kb
    rw [hgi]
    have o2 : vo_ob n = true := by unfold vo_ob; exact decide_eq_true ⟨h5, by omega⟩
    simp [o2, hl, ht]
  · subst z; rw [hgi] at h8; omega
  · have h2 := List.pairwise_iff_getElem.mp h.2.1 k i hk hil z
    have e1 : v.1[k] = pq_get v.1 k := by have := List.getElem?_eq_getElem hk; rw [hgk] at this; exact (Option.some.inj this).symm
    have e2 : v.1[i] = n := by have := List.getElem?_eq_getElem hil; rw [hi] at this; exact (Option.some.inj this).symm
    rw [e1, e2] at h2
    exact h2 ⟨h8, h5, h7, hl.symm, ht.symm⟩
theorem iv_lf {v : pv_V} {k : Nat} {m : pv_Msg} (h : pv_Inv v) (hm : v.1[k]? = some m) (hkd : mkd m = 8) (hz : ∀ n ∈ v.1, 5 ≤ mkd n → mkd n ≤ 7 → mln n = mln m → mto n = mto m → False) : pv_Inv (pv_del (pv_sN v 0 (mto m) (mln m) 0) k) := by
  obtain ⟨w1, w2, w3, w4⟩ := h.1 m (List.mem_of_getElem? hm)
  have wt : mto m < 4 := by omega
  have wr : mto m = mrq m := by omega
  have wn : mnm m = 0 := by omega
  have hb := pv_has hm 3 (mto m)
  have e22 : (pv_del (pv_sN v 0 (mto m) (mln m) 0) k).2.2 = pv_u3 v.2.2 0 (mto m) (mln m) 0 := rfl
  have none : ∀ j, (j = 4 ∨ j = 5 ∨ j = 8) → pv_cn j (mln m) (mto m) v.1 = 0 := by
    intro j hj
    by_cases z : 1 ≤ pv_cn j (mln m) (mto m) v.1
    · exfalso
      obtain ⟨n, hn, h1⟩ := pv_cn_ex z
      by_cases el : mln n = mln m
      · simp only [pv_b1, if_pos el] at h1
        rcases hj with rfl | rfl | rfl <;> simp only [pv_bk] at h1 <;> split at h1 <;> first | omega | (next q => exact hz n hn (by omega) (by omega) el q.2)
      · simp only [pv_b1, if_neg el] at h1
        omega
    · omega
  refine pv_stp (N := []) h hm (List.append_nil _).symm ?_ List.Pairwise.nil ?_ ?_ ?_ ?_
  · intro n hn; cases hn
  · intro n hn; cases hn
  · intro t c l z _ _; rw [e22]; simp [pv_u3, z]
  · intro c hc
    refine pv_CO_st (c0 := mto m) (a := mln m) (s' := 0) (h.2.2.2 c hc) (fun _ => rfl) (fun _ => rfl) (fun d l => by rw [e22]; simp [pv_u3]) ?_
    omega
  · intro L K h13
    rw [hkd, wn, ← wr] at K
    rw [hkd] at hb
    unfold pv_LI
    rw [e22]
    exact pv_t_lf (got' := fun c => v.2.2 1 c (mln m)) (need' := fun c => v.2.2 2 c (mln m)) L wt (by simpa [pv_bk] using hb) ⟨none 4 (by omega), none 5 (by omega), none 8 (by omega)⟩ (fun d => by simp [pv_u3]) (fun j d => by simpa only [pv_cn_nil, Nat.add_zero] using K j d) h13
theorem iv_da4 {v : pv_V} {k : Nat} {m : pv_Msg} (h : pv_Inv v) (hm : v.1[k]? = some m) (hkd : mkd m = 9) (ht : mto m ≠ 4) (h4 : v.2.2 0 (mto m) (mln m) = 4) : pv_Inv (pv_del (vo_da v (mto m) (mln m) (mnm m) (mcv m)) k) := by
  obtain ⟨w1, w2, w3, w4⟩ := h.1 m (List.mem_of_getElem? hm)
  have wr : mto m = mrq m := by omega
  have wt : mto m < 4 := by omega
  have hb := pv_has hm 10 (mto m)
  have e22 : ∀ t c l, (pv_del (vo_da v (mto m) (mln m) (mnm m) (mcv m)) k).2.2 t c l = if t = 3 ∧ c = mto m ∧ l = 0 then 0 else if t = 0 ∧ c = mto m ∧ l = mln m then 1 else v.2.2 t c l := by
    intro t c l
    show (vo_da v (mto m) (mln m) (mnm m) (mcv m)).2.2 t c l = _
    unfold vo_da
    rw [if_pos h4, vo_fin_N]
    simp [pv_sN, pv_sI, pv_u3]
  refine pv_stp (N := []) h hm ?_ ?_ List.Pairwise.nil ?_ ?_ ?_ ?_
  · show (vo_da v (mto m) (mln m) (mnm m) (mcv m)).1.eraseIdx k = _
    rw [vo_da_1]; exact (List.append_nil _).symm
  · intro n hn; cases hn
  · intro n hn; cases hn
  · intro t c l z z3 _; rw [e22]; simp [z, z3]
  · intro c hc
    exact pv_CO_fin (c0 := mto m) (a := mln m) (s' := 1) (h.2.2.2 c hc) w1 (fun d => by rw [e22]; simp) (fun d => by rw [e22]; simp) (fun d l => by rw [e22]; simp) (by omega) (Or.inr (by omega))
  · intro L K h13
    rw [hkd, ← wr] at K
    rw [hkd] at hb
    unfold pv_LI
    simp only [e22]
    exact pv_t_da4 (got' := fun c => v.2.2 1 c (mln m)) (need' := fun c => v.2.2 2 c (mln m)) L wt (by simpa [pv_bk] using hb) h4 (fun d => by simp) (fun j d => by simpa only [pv_cn_nil, Nat.add_zero] using K j d) h13
theorem iv_so {v : pv_V} {k : Nat} {m : pv_Msg} (h : pv_Inv v) (hm : v.1[k]? = some m) (hkd : mkd m = 10) : pv_Inv (pv_del (vo_so v (mto m) (mln m) (mcv m)) k) := by
  obtain ⟨w1, w2, w3, w4⟩ := h.1 m (List.mem_of_getElem? hm)
  have wr : mto m = mrq m := by omega
  have wt : mto m < 4 := by omega
  have wn : mnm m = 0 := by omega
  have hb := pv_has hm 11 (mto m)
  rw [hkd] at hb
  have hb1 : 1 ≤ pv_cn 11 (mln m) (mto m) v.1 := by simpa [pv_bk] using hb
  have h4 : v.2.2 0 (mto m) (mln m) = 4 := pv_lc_so ((h.2.2.1 _ w1).1 _ wt) hb1
  have ho : v.2.2 4 (mto m) 0 = 0 := (h.2.2.2 _ wt).2.2.2.2 _ w1 h4
  have e22 : ∀ t c l, (pv_del (vo_so v (mto m) (mln m) (mcv m)) k).2.2 t c l = if t = 3 ∧ c = mto m ∧ l = 0 then 0 else if t = 0 ∧ c = mto m ∧ l = mln m then 2 else v.2.2 t c l := by
    intro t c l
    show (vo_so v (mto m) (mln m) (mcv m)).2.2 t c l = _
    unfold vo_so
    rw [vo_fin_N, if_neg (show ¬ (t = 0 ∧ c = mto m ∧ l = mln m ∧ (pv_sN (pv_sI v 1 (mto m) (mln m) (mcv m)) 0 (mto m) (mln m) 2).2.2 4 (mto m) 0 ≠ 0 ∧ _) from fun z => z.2.2.2.1 ho)]
    simp [pv_sN, pv_sI, pv_u3]
  refine pv_stp (N := []) h hm ?_ ?_ List.Pairwise.nil ?_ ?_ ?_ ?_
  · show (vo_so v (mto m) (mln m) (mcv m)).1.eraseIdx k = _
    unfold vo_so; rw [vo_fin_1]; exact (List.append_nil _).symm
  · intro n hn; cases hn
  · intro n hn; cases hn
  · intro t c l z z3 _; rw [e22]; simp [z, z3]
  · intro c hc
    exact pv_CO_fin (c0 := mto m) (a := mln m) (s' := 2) (h.2.2.2 c hc) w1 (fun d => by rw [e22]; simp) (fun d => by rw [e22]; simp) (fun d l => by rw [e22]; simp) (by omega) (Or.inr (by omega))
  · intro L K h13
    rw [hkd, wn, ← wr] at K
    unfold pv_LI
    simp only [e22]
    exact pv_t_so (got' := fun c => v.2.2 1 c (mln m)) (need' := fun c => v.2.2 2 c (mln m)) L wt hb1 (fun d => by simp) (fun j d => by simpa only [pv_cn_nil, Nat.add_zero] using K j d) h13
theorem vo_ack_N (v : pv_V) (c l t c' l' : Nat) : (vo_ack v c l).2.2 t c' l' = if v.2.2 2 c l = v.2.2 1 c l then (if t = 3 ∧ c' = c ∧ l' = 0 then 0 else if t = 0 ∧ c' = c ∧ l' = l then 3 else v.2.2 t c' l') else v.2.2 t c' l' := by
  unfold vo_ack
  split
  · rw [vo_fin_N]
    simp [pv_sN, pv_u3]
  · rfl
theorem iv_da5 {v : pv_V} {k : Nat} {m : pv_Msg} (h : pv_Inv v) (hm : v.1[k]? = some m) (hkd : mkd m = 9) (ht : mto m ≠ 4) (h4 : v.2.2 0 (mto m) (mln m) ≠ 4) : pv_Inv (pv_del (vo_da v (mto m) (mln m) (mnm m) (mcv m)) k) := by
  obtain ⟨w1, w2, w3, w4⟩ := h.1 m (List.mem_of_getElem? hm)
  have wr : mto m = mrq m := by omega
  have wt : mto m < 4 := by omega
  have hb := pv_has hm 10 (mto m)
  rw [hkd] at hb
  have hb1 : 1 ≤ pv_cn 10 (mln m) (mto m) v.1 := by simpa [pv_bk] using hb
  have h5 : v.2.2 0 (mto m) (mln m) = 5 ∨ v.2.2 0 (mto m) (mln m) = 7 := by
    rcases pv_lc_da ((h.2.2.1 _ w1).1 _ wt) hb1 with z | z | z
    · exact absurd z h4
    · exact Or.inl z
    · exact Or.inr z
  have hdq : 1 ≤ pv_cn 8 (mln m) (mto m) v.1 → ∃ d, d < 4 ∧ d ≠ mto m ∧ 1 ≤ pv_cn 9 (mln m) d v.1 := by
    intro z
    obtain ⟨n, hn, h1⟩ := pv_cn_ex z
    obtain ⟨x1, x2, x3, x4⟩ := h.1 n hn
    by_cases el : mln n = mln m
    · simp only [pv_b1, if_pos el, pv_bk] at h1
      split at h1
      · next q =>
        refine ⟨mrq n, x2, by omega, ?_⟩
        have := pv_cn_in (j := 9) (a := mln m) (d := mrq n) hn
        simp only [pv_b1, if_pos el, pv_bk, q.1, true_and, ↓reduceIte] at this
        exact this
      · omega
    · simp only [pv_b1, if_neg el] at h1; omega
  have e22 : ∀ t c l, (pv_del (vo_da v (mto m) (mln m) (mnm m) (mcv m)) k).2.2 t c l = if t = 3 ∧ c = mto m ∧ l = 0 ∧ v.2.2 1 (mto m) (mln m) = mnm m then 0 else if t = 0 ∧ c = mto m ∧ l = mln m then (if v.2.2 1 (mto m) (mln m) = mnm m then 3 else if v.2.2 0 (mto m) (mln m) = 7 then 8 else 6) else if t = 2 ∧ c = mto m ∧ l = mln m then mnm m else v.2.2 t c l := by
    intro t c l
    show (vo_da v (mto m) (mln m) (mnm m) (mcv m)).2.2 t c l = _
    unfold vo_da
    rw [if_neg h4, vo_ack_N]
    have q2 : (pv_sN (pv_sN (pv_sI v 1 (mto m) (mln m) (mcv m)) 2 (mto m) (mln m) (mnm m)) 0 (mto m) (mln m) (if v.2.2 0 (mto m) (mln m) = 7 then 8 else 6)).2.2 2 (mto m) (mln m) = mnm m := by simp [pv_sN, pv_sI, pv_u3]
    have q1 : (pv_sN (pv_sN (pv_sI v 1 (mto m) (mln m) (mcv m)) 2 (mto m) (mln m) (mnm m)) 0 (mto m) (mln m) (if v.2.2 0 (mto m) (mln m) = 7 then 8 else 6)).2.2 1 (mto m) (mln m) = v.2.2 1 (mto m) (mln m) := by simp [pv_sN, pv_sI, pv_u3]
    rw [q1, q2]
    by_cases z : v.2.2 1 (mto m) (mln m) = mnm m
    · rw [if_pos z.symm]
      simp only [pv_sN, pv_sI, pv_u3, z, ↓reduceIte, and_true]
      by_cases z3 : t = 3 ∧ c = mto m ∧ l = 0
      · rw [if_pos z3, if_pos z3]
      · rw [if_neg z3, if_neg z3]
        by_cases z0 : t = 0 ∧ c = mto m ∧ l = mln m
        · rw [if_pos z0, if_pos z0]
        · rw [if_neg z0, if_neg z0, if_neg z0]
    · rw [if_neg (fun e => z e.symm)]
      simp only [pv_sN, pv_sI, pv_u3, z, ↓reduceIte, and_false]
  refine pv_stp (N := []) h hm ?_ ?_ List.Pairwise.nil ?_ ?_ ?_ ?_
  · show (vo_da v (mto m) (mln m) (mnm m) (mcv m)).1.eraseIdx k = _
    rw [vo_da_1]; exact (List.append_nil _).symm
  · intro n hn; cases hn
  · intro n hn; cases hn
  · intro t c l z z3 _; rw [e22]; simp [z, z3]
  · clear hdq
    intro c hc
    by_cases z : v.2.2 1 (mto m) (mln m) = mnm m
    · exact pv_CO_fin (c0 := mto m) (a := mln m) (s' := 3) (h.2.2.2 c hc) w1 (fun d => by rw [e22]; simp [z]) (fun d => by rw [e22]; simp) (fun d l => by rw [e22]; simp [z]) (by omega) (Or.inr (by omega))
    · refine pv_CO_st (c0 := mto m) (a := mln m) (s' := if v.2.2 0 (mto m) (mln m) = 7 then 8 else 6) (h.2.2.2 c hc) (fun d => by rw [e22]; simp [z]) (fun d => by rw [e22]; simp) (fun d l => by rw [e22]; simp [z]) ?_
      split <;> omega
  · intro L K h13
    rw [hkd, ← wr] at K
    unfold pv_LI
    simp only [e22]
    exact pv_t_da5 (n := mnm m) (got' := fun c => v.2.2 1 c (mln m)) L wt hb1 h5 hdq (fun d => by simp) (fun d => by simp) (fun j d => by simpa only [pv_cn_nil, Nat.add_zero] using K j d) h13
theorem iv_dd {v : pv_V} {k : Nat} {m : pv_Msg} (h : pv_Inv v) (hm : v.1[k]? = some m) (hkd : mkd m = 11) : pv_Inv (pv_del (vo_dd v (mto m) (mln m)) k) ∧ v.2.2 1 (mto m) (mln m) + 1 ≤ 3 := by
  obtain ⟨w1, w2, w3, w4⟩ := h.1 m (List.mem_of_getElem? hm)
  have wr : mto m = mrq m := by omega
  have wt : mto m < 4 := by omega
  have wn : mnm m = 0 := by omega
  have hb := pv_has hm 12 (mto m)
  rw [hkd] at hb
  have hb1 : 1 ≤ pv_cn 12 (mln m) (mto m) v.1 := by simpa [pv_bk] using hb
  have L0 := h.2.2.1 _ w1
  have Lc := L0.1 _ wt
  have h13o := L0.2.2.2.2.2.2.2 (mto m)
  have h5 : (v.2.2 0 (mto m) (mln m) = 5 ∨ v.2.2 0 (mto m) (mln m) = 7) ∨ v.2.2 0 (mto m) (mln m) = 6 ∨ v.2.2 0 (mto m) (mln m) = 8 := by
    rcases pv_lc_ack Lc (show 1 ≤ pv_cn 9 (mln m) (mto m) v.1 + pv_cn 12 (mln m) (mto m) v.1 by omega) h13o with z | z | z
    · exact Or.inl z.1
    · exact Or.inr (Or.inl z)
    · exact Or.inr (Or.inr z)
  have hg : v.2.2 1 (mto m) (mln m) + 1 ≤ 3 := by
    simp only at Lc h13o
    rcases h5 with (z | z) | z | z <;> rw [z] at Lc <;> simp only [pv_lc] at Lc <;> omega
  refine ⟨?_, hg⟩
  have e22 : ∀ t c l, (pv_del (vo_dd v (mto m) (mln m)) k).2.2 t c l = if t = 3 ∧ c = mto m ∧ l = 0 ∧ (v.2.2 0 (mto m) (mln m) = 6 ∨ v.2.2 0 (mto m) (mln m) = 8) ∧ v.2.2 1 (mto m) (mln m) + 1 = v.2.2 2 (mto m) (mln m) then 0 else if t = 0 ∧ c = mto m ∧ l = mln m then (if (v.2.2 0 (mto m) (mln m) = 6 ∨ v.2.2 0 (mto m) (mln m) = 8) ∧ v.2.2 1 (mto m) (mln m) + 1 = v.2.2 2 (mto m) (mln m) then 3 else v.2.2 0 (mto m) (mln m)) else if t = 1 ∧ c = mto m ∧ l = mln m then v.2.2 1 (mto m) (mln m) + 1 else v.2.2 t c l := by
    intro t c l
    show (vo_dd v (mto m) (mln m)).2.2 t c l = _
    unfold vo_dd
    by_cases z6 : v.2.2 0 (mto m) (mln m) = 6 ∨ v.2.2 0 (mto m) (mln m) = 8
    · rw [if_pos z6, vo_ack_N]
      have q2 : (pv_sN v 1 (mto m) (mln m) (v.2.2 1 (mto m) (mln m) + 1)).2.2 2 (mto m) (mln m) = v.2.2 2 (mto m) (mln m) := by simp [pv_sN, pv_u3]
      have q1 : (pv_sN v 1 (mto m) (mln m) (v.2.2 1 (mto m) (mln m) + 1)).2.2 1 (mto m) (mln m) = v.2.2 1 (mto m) (mln m) + 1 := by simp [pv_sN, pv_u3]
      rw [q1, q2]
      simp only [z6, true_and]
      by_cases z : v.2.2 1 (mto m) (mln m) + 1 = v.2.2 2 (mto m) (mln m)
      · rw [if_pos z.symm]
        simp only [pv_sN, pv_u3, z, ↓reduceIte, and_true]
      · rw [if_neg (fun e => z e.symm)]
        simp only [pv_sN, pv_u3, z, ↓reduceIte, and_false]
        by_cases z0 : t = 0 ∧ c = mto m ∧ l = mln m
        · obtain ⟨rfl, rfl, rfl⟩ := z0
          simp
        · rw [if_neg z0]
    · rw [if_neg z6]
      simp only [z6, false_and, and_false, ↓reduceIte]
      simp only [pv_sN, pv_u3]
      by_cases z0 : t = 0 ∧ c = mto m ∧ l = mln m
      · obtain ⟨rfl, rfl, rfl⟩ := z0
        simp
      · rw [if_neg z0]
  refine pv_stp (N := []) h hm ?_ ?_ List.Pairwise.nil ?_ ?_ ?_ ?_
  · show (vo_dd v (mto m) (mln m)).1.eraseIdx k = _
    rw [vo_dd_1]; exact (List.append_nil _).symm
  · intro n hn; cases hn
  · intro n hn; cases hn
  · intro t c l z z3 _; rw [e22]; simp [z, z3]
  · intro c hc
    by_cases z : (v.2.2 0 (mto m) (mln m) = 6 ∨ v.2.2 0 (mto m) (mln m) = 8) ∧ v.2.2 1 (mto m) (mln m) + 1 = v.2.2 2 (mto m) (mln m)
    · exact pv_CO_fin (c0 := mto m) (a := mln m) (s' := 3) (h.2.2.2 c hc) w1 (fun d => by rw [e22]; simp only [z, and_self, and_true, true_and]; simp) (fun d => by rw [e22]; simp) (fun d l => by rw [e22]; simp only [z, and_self, ↓reduceIte]; simp) (by omega) (Or.inr (by omega))
    · refine pv_CO_st (c0 := mto m) (a := mln m) (s' := v.2.2 0 (mto m) (mln m)) (h.2.2.2 c hc) (fun d => by rw [e22]; simp only [z, and_false, ↓reduceIte]; simp) (fun d => by rw [e22]; simp) (fun d l => by rw [e22]; simp only [z, and_false, ↓reduceIte]; simp) ?_
      omega
  · intro L K h13
    rw [hkd, wn, ← wr] at K
    unfold pv_LI
    simp only [e22]
    exact pv_t_dd (need' := fun c => v.2.2 2 c (mln m)) L wt hb1 (fun d => by simp) (fun d => by simp) (fun j d => by simpa only [pv_cn_nil, Nat.add_zero] using K j d) h13
