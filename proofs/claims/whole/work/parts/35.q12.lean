/-! the invariant is kept by each message that is taken -/
theorem iv_hr0 {v : pv_V} {k : Nat} {m : pv_Msg} (h : pv_Inv v) (hm : v.1[k]? = some m) (hkd : mkd m = 0) (h0 : v.2.2 5 0 (mln m) = 0) : pv_Inv (pv_del (vo_hr0 v (mln m) (mrq m)) k) := by
  obtain ⟨w1, w2, w3, w4⟩ := h.1 m (List.mem_of_getElem? hm)
  have wt : mto m = 4 := by omega
  have wn : mnm m = 0 := by omega
  have hb := pv_has hm 0 (mrq m)
  refine pv_stp (N := [(10, mln m, 4, mrq m, mrq m, 0, v.2.1 5 0 (mln m))]) h hm (pv_del_app (pv_lt hm)) ?_ (List.pairwise_singleton _ _) ?_ ?_ ?_ ?_
  · intro n hn; obtain rfl := List.mem_singleton.mp hn
    exact ⟨⟨w1, w2, by show 0 ≤ 3; omega, by simp [mkd, mto, mrq, mnm]⟩, rfl⟩
  · intro n hn; obtain rfl := List.mem_singleton.mp hn; intro _ e; exact absurd e (by simp [mkd])
  · intro t c l z _ _; show pv_u3 (pv_u3 v.2.2 6 0 (mln m) (mrq m)) 5 0 (mln m) 2 t c l = _; simp [pv_u3, z]
  · intro c hc
    refine pv_CO_same (h.2.2.2 c hc) fun t l ht => ?_
    show pv_u3 (pv_u3 v.2.2 6 0 (mln m) (mrq m)) 5 0 (mln m) 2 t c l = _
    rcases ht with rfl | rfl | rfl <;> simp [pv_u3]
  · intro L K h13
    rw [hkd, wt, wn] at K hb
    have e5 : (pv_del (vo_hr0 v (mln m) (mrq m)) k).2.2 5 0 (mln m) = 2 := by simp [pv_del, vo_hr0, vo_hr1, vo_hr2, vo_hw2, pv_sN, pv_snd, pv_u3]
    have e6 : (pv_del (vo_hr0 v (mln m) (mrq m)) k).2.2 6 0 (mln m) = mrq m := by simp [pv_del, vo_hr0, vo_hr1, vo_hr2, vo_hw2, pv_sN, pv_snd, pv_u3]
    unfold pv_LI
    rw [e5, e6]
    exact pv_t_hr0 (st' := fun c => v.2.2 0 c (mln m)) (got' := fun c => v.2.2 1 c (mln m)) (need' := fun c => v.2.2 2 c (mln m)) L w2 h0 (by simpa [pv_bk] using hb) (fun j d => by simpa only [pv_cn_cons, pv_cn_nil, pv_b1_is, Nat.add_zero] using K j d) h13
theorem iv_hr1 {v : pv_V} {k : Nat} {m : pv_Msg} (h : pv_Inv v) (hm : v.1[k]? = some m) (hkd : mkd m = 0) (h0 : v.2.2 5 0 (mln m) = 1) : pv_Inv (pv_del (vo_hr1 v (mln m) (mrq m)) k) := by
  obtain ⟨w1, w2, w3, w4⟩ := h.1 m (List.mem_of_getElem? hm)
  have wt : mto m = 4 := by omega
  have wn : mnm m = 0 := by omega
  have hb := pv_has hm 0 (mrq m)
  refine pv_stp (N := [(9, mln m, 4, mrq m, mrq m, 0, v.2.1 5 0 (mln m))]) h hm (pv_del_app (pv_lt hm)) ?_ (List.pairwise_singleton _ _) ?_ ?_ ?_ ?_
  · intro n hn; obtain rfl := List.mem_singleton.mp hn
    exact ⟨⟨w1, w2, by show 0 ≤ 3; omega, by simp [mkd, mto, mrq, mnm]⟩, rfl⟩
  · intro n hn; obtain rfl := List.mem_singleton.mp hn; intro _ e; exact absurd e (by simp [mkd])
  · intro t c l z _ _; show pv_u3 v.2.2 7 0 (mln m) _ t c l = _; simp [pv_u3, z]
  · intro c hc
    refine pv_CO_same (h.2.2.2 c hc) fun t l ht => ?_
    show pv_u3 v.2.2 7 0 (mln m) _ t c l = _
    rcases ht with rfl | rfl | rfl <;> simp [pv_u3]
  · intro L K h13
    rw [hkd, wt, wn] at K hb
    have e7 : (pv_del (vo_hr1 v (mln m) (mrq m)) k).2.2 7 0 (mln m) = v.2.2 7 0 (mln m) ||| 2 ^ mrq m := by simp [pv_del, vo_hr0, vo_hr1, vo_hr2, vo_hw2, pv_sN, pv_snd, pv_u3]
    have hsh := L.2.2.2.2.2.1
    have bo := bi_or16 _ hsh _ w2
    unfold pv_LI
    rw [e7]
    exact pv_t_hr1 (st' := fun c => v.2.2 0 c (mln m)) (got' := fun c => v.2.2 1 c (mln m)) (need' := fun c => v.2.2 2 c (mln m)) L w2 h0 (by simpa [pv_bk] using hb) bo.2 bo.1 (fun j d => by simpa only [pv_cn_cons, pv_cn_nil, pv_b1_is, Nat.add_zero] using K j d) h13
theorem iv_hr2 {v : pv_V} {k : Nat} {m : pv_Msg} (h : pv_Inv v) (hm : v.1[k]? = some m) (hkd : mkd m = 0) (h0 : v.2.2 5 0 (mln m) = 2) : pv_Inv (pv_del (vo_hr2 v (mln m) (mrq m)) k) := by
  obtain ⟨w1, w2, w3, w4⟩ := h.1 m (List.mem_of_getElem? hm)
  have wt : mto m = 4 := by omega
  have wn : mnm m = 0 := by omega
  have hb := pv_has hm 0 (mrq m)
  have L0 := h.2.2.1 _ w1
  have how := L0.2.2.2.2.1
  refine pv_stp (N := [(5, mln m, 4, v.2.2 6 0 (mln m), mrq m, 0, 0)]) h hm (pv_del_app (pv_lt hm)) ?_ (List.pairwise_singleton _ _) ?_ ?_ ?_ ?_
  · intro n hn; obtain rfl := List.mem_singleton.mp hn
    exact ⟨⟨w1, w2, by show 0 ≤ 3; omega, by simp [mkd, mto, mrq, mnm]; omega⟩, rfl⟩
  · intro n hn; obtain rfl := List.mem_singleton.mp hn; intro _ _
    exact pv_no_left (c := v.2.2 6 0 (mln m)) L0 how (by simp [pv_oc, h0])
  · intro t c l z _ _; show pv_u3 (pv_u3 v.2.2 7 0 (mln m) _) 5 0 (mln m) 3 t c l = _; simp [pv_u3, z]
  · intro c hc
    refine pv_CO_same (h.2.2.2 c hc) fun t l ht => ?_
    show pv_u3 (pv_u3 v.2.2 7 0 (mln m) _) 5 0 (mln m) 3 t c l = _
    rcases ht with rfl | rfl | rfl <;> simp [pv_u3]
  · intro L K h13
    rw [hkd, wt, wn] at K hb
    have e5 : (pv_del (vo_hr2 v (mln m) (mrq m)) k).2.2 5 0 (mln m) = 3 := by simp [pv_del, vo_hr0, vo_hr1, vo_hr2, vo_hw2, pv_sN, pv_snd, pv_u3]
    have e7 : (pv_del (vo_hr2 v (mln m) (mrq m)) k).2.2 7 0 (mln m) = 2 ^ v.2.2 6 0 (mln m) ||| 2 ^ mrq m := by simp [pv_del, vo_hr0, vo_hr1, vo_hr2, vo_hw2, pv_sN, pv_snd, pv_u3]
    have bo := bi_or216 _ how _ w2
    unfold pv_LI
    rw [e5, e7]
    exact pv_t_hr2 (c := v.2.2 6 0 (mln m)) (st' := fun c => v.2.2 0 c (mln m)) (got' := fun c => v.2.2 1 c (mln m)) (need' := fun c => v.2.2 2 c (mln m)) L w2 h0 rfl (by simpa [pv_bk] using hb) bo.2 bo.1 (fun j d => by simpa only [pv_cn_cons, pv_cn_nil, pv_b1_is, Nat.add_zero] using K j d) h13
theorem iv_hw2 {v : pv_V} {k : Nat} {m : pv_Msg} (h : pv_Inv v) (hm : v.1[k]? = some m) (hkd : mkd m = 1) (h0 : v.2.2 5 0 (mln m) = 2) : pv_Inv (pv_del (vo_hw2 v (mln m) (mrq m)) k) := by
  obtain ⟨w1, w2, w3, w4⟩ := h.1 m (List.mem_of_getElem? hm)
  have wt : mto m = 4 := by omega
  have wn : mnm m = 0 := by omega
  have hb := pv_has hm 1 (mrq m)
  have L0 := h.2.2.1 _ w1
  have how := L0.2.2.2.2.1
  refine pv_stp (N := [(6, mln m, 4, v.2.2 6 0 (mln m), mrq m, 0, 0)]) h hm (pv_del_app (pv_lt hm)) ?_ (List.pairwise_singleton _ _) ?_ ?_ ?_ ?_
  · intro n hn; obtain rfl := List.mem_singleton.mp hn
    exact ⟨⟨w1, w2, by show 0 ≤ 3; omega, by simp [mkd, mto, mrq, mnm]; omega⟩, rfl⟩
  · intro n hn; obtain rfl := List.mem_singleton.mp hn; intro _ _
    exact pv_no_left (c := v.2.2 6 0 (mln m)) L0 how (by simp [pv_oc, h0])
  · intro t c l z _ _; show pv_u3 (pv_u3 v.2.2 6 0 (mln m) _) 5 0 (mln m) 2 t c l = _; simp [pv_u3, z]
  · intro c hc
    refine pv_CO_same (h.2.2.2 c hc) fun t l ht => ?_
    show pv_u3 (pv_u3 v.2.2 6 0 (mln m) _) 5 0 (mln m) 2 t c l = _
    rcases ht with rfl | rfl | rfl <;> simp [pv_u3]
  · intro L K h13
    rw [hkd, wt, wn] at K hb
    have e5 : (pv_del (vo_hw2 v (mln m) (mrq m)) k).2.2 5 0 (mln m) = 2 := by simp [pv_del, vo_hr0, vo_hr1, vo_hr2, vo_hw2, pv_sN, pv_snd, pv_u3]
    have e6 : (pv_del (vo_hw2 v (mln m) (mrq m)) k).2.2 6 0 (mln m) = mrq m := by simp [pv_del, vo_hr0, vo_hr1, vo_hr2, vo_hw2, pv_sN, pv_snd, pv_u3]
    unfold pv_LI
    rw [e5, e6]
    exact pv_t_hw2 (st' := fun c => v.2.2 0 c (mln m)) (got' := fun c => v.2.2 1 c (mln m)) (need' := fun c => v.2.2 2 c (mln m)) L w2 h0 rfl (by simpa [pv_bk] using hb) (fun j d => by simpa only [pv_cn_cons, pv_cn_nil, pv_b1_is, Nat.add_zero] using K j d) h13
theorem iv_hlo {v : pv_V} {k : Nat} {m : pv_Msg} (u : pv_V) (h : pv_Inv v) (hm : v.1[k]? = some m) (hkd : mkd m = 2 ∨ mkd m = 3 ∨ mkd m = 4) (h0 : v.2.2 5 0 (mln m) = 2) (ho : v.2.2 6 0 (mln m) = mrq m) (hu1 : u.1 = v.1) (hu2 : u.2.2 = v.2.2) : pv_Inv (pv_del (pv_snd (pv_sN u 5 0 (mln m) 0) (8, mln m, 4, mrq m, mrq m, 0, 0)) k) := by
  obtain ⟨w1, w2, w3, w4⟩ := h.1 m (List.mem_of_getElem? hm)
  have wt : mto m = 4 := by omega
  have wn : mnm m = 0 := by omega
  have hb := pv_has hm 2 (mrq m)
  have e22 : (pv_del (pv_snd (pv_sN u 5 0 (mln m) 0) (8, mln m, 4, mrq m, mrq m, 0, 0)) k).2.2 = pv_u3 v.2.2 5 0 (mln m) 0 := by rw [← hu2]; rfl
  refine pv_stp (N := [(8, mln m, 4, mrq m, mrq m, 0, 0)]) h hm ?_ ?_ (List.pairwise_singleton _ _) ?_ ?_ ?_ ?_
  · show (u.1 ++ _).eraseIdx k = _
    rw [hu1]; exact pv_del_app (pv_lt hm)
  · intro n hn; obtain rfl := List.mem_singleton.mp hn
    exact ⟨⟨w1, w2, by show 0 ≤ 3; omega, by simp [mkd, mto, mrq, mnm]⟩, rfl⟩
  · intro n hn; obtain rfl := List.mem_singleton.mp hn; intro _ e; exact absurd e (by simp [mkd])
  · intro t c l z _ _; rw [e22]; simp [pv_u3, z]
  · intro c hc
    refine pv_CO_same (h.2.2.2 c hc) fun t l ht => ?_
    rw [e22]
    rcases ht with rfl | rfl | rfl <;> simp [pv_u3]
  · intro L K h13
    rw [wt, wn] at K hb
    have hb1 : 1 ≤ pv_cn 2 (mln m) (mrq m) v.1 := by simpa [pv_bk, hkd] using hb
    unfold pv_LI
    rw [e22, show pv_u3 v.2.2 5 0 (mln m) 0 5 0 (mln m) = 0 by simp [pv_u3]]
    exact pv_t_hlo (st' := fun c => v.2.2 0 c (mln m)) (got' := fun c => v.2.2 1 c (mln m)) (need' := fun c => v.2.2 2 c (mln m)) L w2 h0 ho hb1 hkd (fun j d => by simpa only [pv_cn_cons, pv_cn_nil, pv_b1_is, Nat.add_zero] using K j d) h13
theorem iv_hln {v : pv_V} {k : Nat} {m : pv_Msg} (u : pv_V) (h : pv_Inv v) (hm : v.1[k]? = some m) (hkd : mkd m = 2 ∨ mkd m = 3 ∨ mkd m = 4) (ho : ¬ (v.2.2 5 0 (mln m) = 2 ∧ v.2.2 6 0 (mln m) = mrq m)) (hu1 : u.1 = v.1) (hu2 : u.2.2 = pv_u3 (pv_u3 v.2.2 7 0 (mln m) (pv_clr (v.2.2 7 0 (mln m)) (mrq m))) 5 0 (mln m) (if v.2.2 5 0 (mln m) = 1 ∧ pv_clr (v.2.2 7 0 (mln m)) (mrq m) = 0 then 0 else v.2.2 5 0 (mln m))) : pv_Inv (pv_del (pv_snd u (8, mln m, 4, mrq m, mrq m, 0, 0)) k) := by
  obtain ⟨w1, w2, w3, w4⟩ := h.1 m (List.mem_of_getElem? hm)
  have wt : mto m = 4 := by omega
  have wn : mnm m = 0 := by omega
  have hb := pv_has hm 2 (mrq m)
  have e22 : (pv_del (pv_snd u (8, mln m, 4, mrq m, mrq m, 0, 0)) k).2.2 = pv_u3 (pv_u3 v.2.2 7 0 (mln m) (pv_clr (v.2.2 7 0 (mln m)) (mrq m))) 5 0 (mln m) (if v.2.2 5 0 (mln m) = 1 ∧ pv_clr (v.2.2 7 0 (mln m)) (mrq m) = 0 then 0 else v.2.2 5 0 (mln m)) := hu2
  refine pv_stp (N := [(8, mln m, 4, mrq m, mrq m, 0, 0)]) h hm ?_ ?_ (List.pairwise_singleton _ _) ?_ ?_ ?_ ?_
  · show (u.1 ++ _).eraseIdx k = _
    rw [hu1]; exact pv_del_app (pv_lt hm)
  · intro n hn; obtain rfl := List.mem_singleton.mp hn
    exact ⟨⟨w1, w2, by show 0 ≤ 3; omega, by simp [mkd, mto, mrq, mnm]⟩, rfl⟩
  · intro n hn; obtain rfl := List.mem_singleton.mp hn; intro _ e; exact absurd e (by simp [mkd])
  · intro t c l z _ _; rw [e22]; simp [pv_u3, z]
  · intro c hc
    refine pv_CO_same (h.2.2.2 c hc) fun t l ht => ?_
    rw [e22]
    rcases ht with rfl | rfl | rfl <;> simp [pv_u3]
  · intro L K h13
    rw [wt, wn] at K hb
    have hb1 : 1 ≤ pv_cn 2 (mln m) (mrq m) v.1 := by simpa [pv_bk, hkd] using hb
    have hsh := L.2.2.2.2.2.1
    have bo := bi_clr16 _ hsh _ w2
    unfold pv_LI
    rw [e22]
    generalize hz : (if v.2.2 5 0 (mln m) = 1 ∧ pv_clr (v.2.2 7 0 (mln m)) (mrq m) = 0 then 0 else v.2.2 5 0 (mln m)) = kp' at *
    generalize hy : pv_clr (v.2.2 7 0 (mln m)) (mrq m) = sh' at *
    rw [show pv_u3 (pv_u3 v.2.2 7 0 (mln m) sh') 5 0 (mln m) kp' 5 0 (mln m) = kp' by simp [pv_u3], show pv_u3 (pv_u3 v.2.2 7 0 (mln m) sh') 5 0 (mln m) kp' 7 0 (mln m) = sh' by simp [pv_u3]]
    exact pv_t_hln (st' := fun c => v.2.2 0 c (mln m)) (got' := fun c => v.2.2 1 c (mln m)) (need' := fun c => v.2.2 2 c (mln m)) L w2 ho hb1 hkd hz.symm bo.2.2 bo.1 bo.2.1 (fun j d => by simpa only [pv_cn_cons, pv_cn_nil, pv_b1_is, Nat.add_zero] using K j d) h13
theorem iv_hda {v : pv_V} {k : Nat} {m : pv_Msg} (h : pv_Inv v) (hm : v.1[k]? = some m) (hkd : mkd m = 9) (ht : mto m = 4) : pv_Inv (pv_del (vo_hd v (mln m) (mcv m)) k) := by
  obtain ⟨w1, w2, w3, w4⟩ := h.1 m (List.mem_of_getElem? hm)
  have hb := pv_has hm 10 4
  have e22 : (pv_del (vo_hd v (mln m) (mcv m)) k).2.2 = pv_u3 v.2.2 5 0 (mln m) (if v.2.2 7 0 (mln m) = 0 then 0 else 1) := rfl
  refine pv_stp (N := []) h hm (List.append_nil _).symm ?_ List.Pairwise.nil ?_ ?_ ?_ ?_
  · intro n hn; cases hn
  · intro n hn; cases hn
  · intro t c l z _ _; rw [e22]; simp [pv_u3, z]
  · intro c hc
    refine pv_CO_same (h.2.2.2 c hc) fun t l ht => ?_
    rw [e22]
    rcases ht with rfl | rfl | rfl <;> simp [pv_u3]
  · intro L K h13
    rw [hkd, ht] at K hb
    have hb1 : 1 ≤ pv_cn 10 (mln m) 4 v.1 := by simpa [pv_bk] using hb
    unfold pv_LI
    rw [e22]
    generalize hz : (if v.2.2 7 0 (mln m) = 0 then 0 else 1) = kp' at *
    rw [show pv_u3 v.2.2 5 0 (mln m) kp' 5 0 (mln m) = kp' by simp [pv_u3]]
    exact pv_t_hda L hb1 hz.symm (fun j d => by simpa only [pv_cn_nil, Nat.add_zero] using K j d) h13
theorem iv_fr {v : pv_V} {k : Nat} {m : pv_Msg} (h : pv_Inv v) (hm : v.1[k]? = some m) (hkd : mkd m = 5) (hs : ¬ (4 ≤ v.2.2 0 (mto m) (mln m) ∧ v.2.2 0 (mto m) (mln m) ≤ 8)) : pv_Inv (pv_del (vo_fr v (mto m) (mln m) (mrq m)) k) := by
  obtain ⟨w1, w2, w3, w4⟩ := h.1 m (List.mem_of_getElem? hm)
  have wt : mto m < 4 := by omega
  have wn : mnm m = 0 := by omega
  have hb := pv_has hm 4 (mto m)
  have hb2 := pv_has hm 6 (mrq m)
  have e22 : (pv_del (vo_fr v (mto m) (mln m) (mrq m)) k).2.2 = pv_u3 v.2.2 0 (mto m) (mln m) (if v.2.2 0 (mto m) (mln m) ≤ 3 then 1 else 11) := rfl
  refine pv_stp (N := [(9, mln m, mto m, mrq m, mrq m, 0, v.2.1 1 (mto m) (mln m)), (9, mln m, mto m, 4, mrq m, 0, v.2.1 1 (mto m) (mln m))]) h hm ?_ ?_ (pv_rl_free ?_) ?_ ?_ ?_ ?_
  · show ((v.1 ++ [_]) ++ [_]).eraseIdx k = _
    rw [List.append_assoc]; exact pv_del_app (pv_lt hm)
  · intro n hn
    rcases List.mem_cons.mp hn with rfl | hn
    · exact ⟨⟨w1, w2, by show 0 ≤ 3; omega, by simp [mkd, mto, mrq, mnm]⟩, rfl⟩
    · obtain rfl := List.mem_singleton.mp hn
      exact ⟨⟨w1, w2, by show 0 ≤ 3; omega, by simp [mkd, mto, mrq, mnm]⟩, rfl⟩
  · intro n hn
    rcases List.mem_cons.mp hn with rfl | hn
    · simp [mkd]
    · obtain rfl := List.mem_singleton.mp hn
      simp [mkd]
  · intro n hn _ e
    rcases List.mem_cons.mp hn with rfl | hn
    · exact absurd e (by simp [mkd])
    · obtain rfl := List.mem_singleton.mp hn
      exact absurd e (by simp [mkd])
  · intro t c l z _ _; rw [e22]; simp [pv_u3, z]
  · intro c hc
    refine pv_CO_st (c0 := mto m) (a := mln m) (s' := if v.2.2 0 (mto m) (mln m) ≤ 3 then 1 else 11) (h.2.2.2 c hc) (fun _ => rfl) (fun _ => rfl) (fun d l => by rw [e22]; simp [pv_u3]) ?_
    split <;> omega
  · intro L K h13
    rw [hkd, wn] at K hb hb2
    unfold pv_LI
    rw [e22]
    exact pv_t_fr (got' := fun c => v.2.2 1 c (mln m)) (need' := fun c => v.2.2 2 c (mln m)) L wt w2 (by simpa [pv_bk] using hb) (by simpa [pv_bk] using hb2) hs (fun d => by simp [pv_u3]) (fun j d => by simpa only [pv_cn_cons, pv_cn_nil, pv_b1_is, Nat.add_zero] using K j d) h13
theorem iv_fw {v : pv_V} {k : Nat} {m : pv_Msg} (h : pv_Inv v) (hm : v.1[k]? = some m) (hkd : mkd m = 6) (hs : ¬ (4 ≤ v.2.2 0 (mto m) (mln m) ∧ v.2.2 0 (mto m) (mln m) ≤ 8)) : pv_Inv (pv_del (vo_fw v (mto m) (mln m) (mrq m)) k) := by
  obtain ⟨w1, w2, w3, w4⟩ := h.1 m (List.mem_of_getElem? hm)
  have wt : mto m < 4 := by omega
  have wn : mnm m = 0 := by omega
  have hb := pv_has hm 5 (mto m)
  have hb2 := pv_has hm 7 (mrq m)
  have e22 : (pv_del (vo_fw v (mto m) (mln m) (mrq m)) k).2.2 = pv_u3 v.2.2 0 (mto m) (mln m) (if v.2.2 0 (mto m) (mln m) ≤ 3 then 0 else 12) := rfl
  refine pv_stp (N := [(9, mln m, mto m, mrq m, mrq m, 0, v.2.1 1 (mto m) (mln m))]) h hm (pv_del_app (pv_lt hm)) ?_ (List.pairwise_singleton _ _) ?_ ?_ ?_ ?_
  · intro n hn; obtain rfl := List.mem_singleton.mp hn
    exact ⟨⟨w1, w2, by show 0 ≤ 3; omega, by simp [mkd, mto, mrq, mnm]⟩, rfl⟩
  · intro n hn; obtain rfl := List.mem_singleton.mp hn; intro _ e; exact absurd e (by simp [mkd])
  · intro t c l z _ _; rw [e22]; simp [pv_u3, z]
  · intro c hc
    refine pv_CO_st (c0 := mto m) (a := mln m) (s' := if v.2.2 0 (mto m) (mln m) ≤ 3 then 0 else 12) (h.2.2.2 c hc) (fun _ => rfl) (fun _ => rfl) (fun d l => by rw [e22]; simp [pv_u3]) ?_
    split <;> omega
  · intro L K h13
    rw [hkd, wn] at K hb hb2
    unfold pv_LI
    rw [e22]
    exact pv_t_fw (got' := fun c => v.2.2 1 c (mln m)) (need' := fun c => v.2.2 2 c (mln m)) L wt w2 (by simpa [pv_bk] using hb) (by simpa [pv_bk] using hb2) hs (fun d => by simp [pv_u3]) (fun j d => by simpa only [pv_cn_cons, pv_cn_nil, pv_b1_is, Nat.add_zero] using K j d) h13
theorem iv_dr {v : pv_V} {k : Nat} {m : pv_Msg} (h : pv_Inv v) (hm : v.1[k]? = some m) (hkd : mkd m = 7) (hs : v.2.2 0 (mto m) (mln m) ≠ 4) : pv_Inv (pv_del (vo_dr v (mto m) (mln m) (mrq m)) k) := by
  obtain ⟨w1, w2, w3, w4⟩ := h.1 m (List.mem_of_getElem? hm)
  have wt : mto m < 4 := by omega
  have wr : mto m ≠ mrq m := by omega
  have wn : mnm m = 0 := by omega
  have hb := pv_has hm 8 (mto m)
  have hb2 := pv_has hm 9 (mrq m)
  have e22 : (pv_del (vo_dr v (mto m) (mln m) (mrq m)) k).2.2 = pv_u3 v.2.2 0 (mto m) (mln m) (if v.2.2 0 (mto m) (mln m) = 7 then 5 else if v.2.2 0 (mto m) (mln m) = 11 then 12 else 0) := rfl
  refine pv_stp (N := [(11, mln m, mto m, mrq m, mrq m, 0, 0)]) h hm (pv_del_app (pv_lt hm)) ?_ (List.pairwise_singleton _ _) ?_ ?_ ?_ ?_
  · intro n hn; obtain rfl := List.mem_singleton.mp hn
    exact ⟨⟨w1, w2, by show 0 ≤ 3; omega, by simp [mkd, mto, mrq, mnm]⟩, rfl⟩
  · intro n hn; obtain rfl := List.mem_singleton.mp hn; intro _ e; exact absurd e (by simp [mkd])
  · intro t c l z _ _; rw [e22]; simp [pv_u3, z]
  · intro c hc
    refine pv_CO_st (c0 := mto m) (a := mln m) (s' := if v.2.2 0 (mto m) (mln m) = 7 then 5 else if v.2.2 0 (mto m) (mln m) = 11 then 12 else 0) (h.2.2.2 c hc) (fun _ => rfl) (fun _ => rfl) (fun d l => by rw [e22]; simp [pv_u3]) ?_
    split
    · omega
    · split <;> omega
  · intro L K h13
    rw [hkd, wn] at K hb hb2
    unfold pv_LI
    rw [e22]
    exact pv_t_dr (got' := fun c => v.2.2 1 c (mln m)) (need' := fun c => v.2.2 2 c (mln m)) L wt w2 wr (by simpa [pv_bk] using hb) (by simpa [pv_bk] using hb2) hs (fun d => by simp [pv_u3]) (fun j d => by simpa only [pv_cn_cons, pv_cn_nil, pv_b1_is, Nat.add_zero] using K j d) h13
