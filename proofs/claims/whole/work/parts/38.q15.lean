/-! the invariant is kept by every step -/
theorem iv_hl {v : pv_V} {k : Nat} {m : pv_Msg} (h : pv_Inv v) (hm : v.1[k]? = some m) (hkd : mkd m = 2 ∨ mkd m = 3 ∨ mkd m = 4) : pv_Inv (pv_del (vo_hl v (mln m) (mrq m) (mkd m) (mcv m)) k) := by
  unfold vo_hl
  by_cases z : v.2.2 5 0 (mln m) = 2 ∧ v.2.2 6 0 (mln m) = mrq m
  · rw [if_pos z]
    refine iv_hlo _ h hm hkd z.1 z.2 ?_ ?_
    · split <;> rfl
    · split <;> rfl
  · rw [if_neg z]
    refine iv_hln _ h hm hkd z ?_ ?_
    · split <;> rfl
    · by_cases y : v.2.2 5 0 (mln m) = 1 ∧ pv_clr (v.2.2 7 0 (mln m)) (mrq m) = 0
      · rw [if_pos y, if_pos y]; rfl
      · rw [if_neg y, if_neg y]
        funext t c l
        simp only [pv_sN, pv_u3]
        by_cases q : t = 5 ∧ c = 0 ∧ l = mln m
        · obtain ⟨rfl, rfl, rfl⟩ := q; simp
        · rw [if_neg q]
theorem inv_gn {v w : pv_V} (h : INV v) (hi : pv_Inv w) (e1 : ∀ c l, w.2.2 1 c l = v.2.2 1 c l) (e2 : ∀ c l, w.2.2 2 c l = v.2.2 2 c l) : INV w :=
  ⟨hi, fun c l hc hl => by rw [e1, e2]; exact h.2 c l hc hl⟩
theorem inv_op {v : pv_V} {k : Nat} (h : INV v) (hk : k < v.1.length) (hf : vo_fate v k = 2) : INV (pv_del (vo_op v (pq_get v.1 k)) k) := by
  have ok := vo_ok_of h hk hf
  have hm := pq_get_some hk
  obtain ⟨hkept, hst⟩ := vo_fate_2 hf
  have hleft := pv_left_first h.1 hk
  generalize pq_get v.1 k = m at *
  obtain ⟨o1, o2, o3, o4, o5, o6, o7, o8, o9, o10⟩ := ok
  unfold vo_op
  by_cases h4 : mto m = 4
  · obtain ⟨g1, g2⟩ := o9 h4
    obtain ⟨b1, b2, b3, b4⟩ := o8 _ o1
    rw [if_pos h4]
    by_cases e0 : mkd m = 0
    · rw [if_pos e0]
      have g3 := g2 (by omega)
      unfold vo_hr
      by_cases z0 : v.2.2 5 0 (mln m) = 0
      · rw [if_pos z0]; exact inv_gn h (iv_hr0 h.1 hm e0 z0) (fun _ _ => rfl) (fun _ _ => rfl)
      · rw [if_neg z0]
        by_cases z1 : v.2.2 5 0 (mln m) = 1
        · rw [if_pos z1]; exact inv_gn h (iv_hr1 h.1 hm e0 z1) (fun _ _ => rfl) (fun _ _ => rfl)
        · rw [if_neg z1]; exact inv_gn h (iv_hr2 h.1 hm e0 (by omega)) (fun _ _ => rfl) (fun _ _ => rfl)
    · rw [if_neg e0]
      by_cases e1 : mkd m = 1
      · rw [if_pos e1]
        have g3 := g2 (by omega)
        unfold vo_hw
        by_cases z0 : v.2.2 5 0 (mln m) = 2
        · rw [if_pos z0]; exact inv_gn h (iv_hw2 h.1 hm e1 z0) (fun _ _ => rfl) (fun _ _ => rfl)
        · rw [if_neg z0]
          have q : ∀ t c l, (vo_d4 (pv_snd v (9, mln m, 4, mrq m, mrq m, pv_cnt (v.2.2 7 0 (mln m)) (mrq m), v.2.1 5 0 (mln m))) (mln m) (mrq m) (v.2.2 7 0 (mln m))).2.2 t c l = v.2.2 t c l := by
            intro t c l
            unfold vo_d4
            rw [vo_d1_N, vo_d1_N, vo_d1_N, vo_d1_N]; rfl
          exact inv_gn h (iv_hw1 h.1 hm e1 (by omega)) (fun c l => q 1 c l) (fun c l => q 2 c l)
      · rw [if_neg e1]
        by_cases e4 : mkd m ≤ 4
        · rw [if_pos e4]
          refine inv_gn h (iv_hl h.1 hm (by omega)) (fun c l => ?_) (fun c l => ?_)
          · show (vo_hl v (mln m) (mrq m) (mkd m) (mcv m)).2.2 1 c l = _
            unfold vo_hl
            split
            · split <;> rfl
            · split <;> rfl
          · show (vo_hl v (mln m) (mrq m) (mkd m) (mcv m)).2.2 2 c l = _
            unfold vo_hl
            split
            · split <;> rfl
            · split <;> rfl
        · rw [if_neg e4]
          exact inv_gn h (iv_hda h.1 hm (by omega) h4) (fun _ _ => rfl) (fun _ _ => rfl)
  · obtain ⟨g1, g2, g3, g4⟩ := o10 h4
    have hc : mto m < 4 := by omega
    rw [if_neg h4]
    by_cases e5 : mkd m = 5
    · rw [if_pos e5]
      exact inv_gn h (iv_fr h.1 hm e5 (by have := g2 (Or.inl e5); omega)) (fun _ _ => rfl) (fun _ _ => rfl)
    · rw [if_neg e5]
      by_cases e6 : mkd m = 6
      · rw [if_pos e6]
        exact inv_gn h (iv_fw h.1 hm e6 (by have := g2 (Or.inr e6); omega)) (fun _ _ => rfl) (fun _ _ => rfl)
      · rw [if_neg e6]
        by_cases e7 : mkd m = 7
        · rw [if_pos e7]
          exact inv_gn h (iv_dr h.1 hm e7 (by have := g3 e7; omega)) (fun _ _ => rfl) (fun _ _ => rfl)
        · rw [if_neg e7]
          by_cases e8 : mkd m = 8
          · rw [if_pos e8]
            exact inv_gn h (iv_lf h.1 hm e8 (fun n hn a b c d => hleft e8 hkept n hn a b c d)) (fun _ _ => rfl) (fun _ _ => rfl)
          · rw [if_neg e8]
            by_cases e9 : mkd m = 9
            · rw [if_pos e9]
              by_cases z : v.2.2 0 (mto m) (mln m) = 4
              · refine inv_gn h (iv_da4 h.1 hm e9 h4 z) (fun c l => ?_) (fun c l => ?_)
                · show (vo_da v (mto m) (mln m) (mnm m) (mcv m)).2.2 1 c l = _
                  unfold vo_da; rw [if_pos z, vo_fin_N]; rfl
                · show (vo_da v (mto m) (mln m) (mnm m) (mcv m)).2.2 2 c l = _
                  unfold vo_da; rw [if_pos z, vo_fin_N]; rfl
              · refine ⟨iv_da5 h.1 hm e9 h4 z, fun c l hc hl => ?_⟩
                have q1 : (pv_del (vo_da v (mto m) (mln m) (mnm m) (mcv m)) k).2.2 1 c l = v.2.2 1 c l := by
                  show (vo_da v (mto m) (mln m) (mnm m) (mcv m)).2.2 1 c l = _
                  unfold vo_da; rw [if_neg z, vo_ack_N]
                  generalize (if v.2.2 0 (mto m) (mln m) = 7 then 8 else 6) = s6
                  split <;> rfl
                have q2 : (pv_del (vo_da v (mto m) (mln m) (mnm m) (mcv m)) k).2.2 2 c l = if c = mto m ∧ l = mln m then mnm m else v.2.2 2 c l := by
                  show (vo_da v (mto m) (mln m) (mnm m) (mcv m)).2.2 2 c l = _
                  unfold vo_da; rw [if_neg z, vo_ack_N]
                  split <;> simp [pv_sN, pv_sI, pv_u3]
                rw [q1, q2]
                have := h.2 c l hc hl
                split <;> omega
            · rw [if_neg e9]
              by_cases e10 : mkd m = 10
              · rw [if_pos e10]
                refine inv_gn h (iv_so h.1 hm e10) (fun c l => ?_) (fun c l => ?_)
                · show (vo_so v (mto m) (mln m) (mcv m)).2.2 1 c l = _
                  unfold vo_so; rw [vo_fin_N]; rfl
                · show (vo_so v (mto m) (mln m) (mcv m)).2.2 2 c l = _
                  unfold vo_so; rw [vo_fin_N]; rfl
              · rw [if_neg e10]
                obtain ⟨d1, d2⟩ := iv_dd h.1 hm (by omega)
                refine ⟨d1, fun c l hc hl => ?_⟩
                have q1 : (pv_del (vo_dd v (mto m) (mln m)) k).2.2 1 c l = if c = mto m ∧ l = mln m then v.2.2 1 (mto m) (mln m) + 1 else v.2.2 1 c l := by
                  show (vo_dd v (mto m) (mln m)).2.2 1 c l = _
                  unfold vo_dd
                  split
                  · rw [vo_ack_N]
                    split <;> simp [pv_sN, pv_u3]
                  · simp [pv_sN, pv_u3]
                have q2 : (pv_del (vo_dd v (mto m) (mln m)) k).2.2 2 c l = v.2.2 2 c l := by
                  show (vo_dd v (mto m) (mln m)).2.2 2 c l = _
                  unfold vo_dd
                  split
                  · rw [vo_ack_N]
                    split <;> rfl
                  · rfl
                rw [q1, q2]
                have := h.2 c l hc hl
                split <;> omega
theorem inv_start {v : pv_V} {c l w : Nat} {x : Int32} (h : INV v) (hc : c < 4) (hl : l < 4) (hw : w ≤ 2) : INV (vo_start v c l w x) := by
  unfold vo_start
  by_cases z : v.2.2 3 c 0 = 0 ∧ v.2.2 0 c l ≤ 3
  · rw [if_pos z]
    by_cases y : v.2.2 0 c l ≤ (if w = 0 then 0 else 1)
    · rw [if_pos y]
      generalize hkk : (if w = 0 then 0 else 1) = kd at *
      have e22 : ∀ t c' l', (vo_miss v c l w x).2.2 t c' l' = if t = 0 ∧ c' = c ∧ l' = l then (if w = 0 then 4 else if v.2.2 0 c l = 1 then 7 else 5) else if t = 2 ∧ c' = c ∧ l' = l then 0 else if t = 1 ∧ c' = c ∧ l' = l then 0 else if t = 3 ∧ c' = c ∧ l' = 0 then 1 else if t = 4 ∧ c' = c ∧ l' = 0 then w else v.2.2 t c' l' := fun _ _ _ => rfl
      have e1 : (vo_miss v c l w x).1 = v.1 ++ [(kd, l, c, 4, c, 0, 0)] := by unfold vo_miss; rw [hkk]; rfl
      have hkd : kd ≤ 1 := by rw [← hkk]; split <;> omega
      refine ⟨pv_stp0 (a := l) h.1 hl e1 ?_ ?_ ?_ ?_, fun c' l' hc' hl' => ?_⟩
      · intro n hn; obtain rfl := List.mem_singleton.mp hn
        exact ⟨⟨hl, hc, by show 0 ≤ 3; omega, by simp [mkd, mto, mrq, mnm]; omega⟩, rfl, by simp [mkd]; omega⟩
      · intro t c' l' q q3 q4; rw [e22]; simp [q, q3, q4]
      · intro d hd
        refine pv_CO_go (c0 := c) (a := l) (o := w) (s' := (if w = 0 then 4 else if v.2.2 0 c l = 1 then 7 else 5)) (h.1.2.2.2 d hd) (fun d => by rw [e22]; simp) (fun d => by rw [e22]; simp) (fun d l' => by rw [e22]; simp) hw ?_ z.1
        split
        · next q => intro _; exact q
        · split <;> omega
      · intro L K h13
        have K2 : ∀ j d, pv_cn j l d (vo_miss v c l w x).1 = pv_cn j l d v.1 + pv_bk j d kd 4 c 0 := fun j d => by
          have := K j d
          rw [pv_cn_one, pv_b1_is] at this
          exact this
        clear K
        by_cases w0 : w = 0
        · have k0 : kd = 0 := by rw [← hkk, if_pos w0]
          rw [k0] at K2 y
          unfold pv_LI
          simp only [e22]
          exact pv_t_rd (c := c) L hc (by show v.2.2 0 c l = 0; omega) (fun d => by simp [w0]) (fun d => by simp) (fun d => by simp) K2 h13
        · have k1 : kd = 1 := by rw [← hkk, if_neg w0]
          rw [k1] at K2 y
          unfold pv_LI
          simp only [e22]
          exact pv_t_wr (c := c) L hc (by show v.2.2 0 c l = 0 ∨ v.2.2 0 c l = 1; omega) (fun d => by simp [w0]) (fun d => by simp) (fun d => by simp) K2 h13
      · rw [e22, e22]
        have := h.2 c' l' hc' hl'
        simp
        constructor <;> (split <;> omega)
    · rw [if_neg y]
      have e22 : ∀ t c' l', (vo_fin (vo_set v c w x) c l).2.2 t c' l' = if t = 3 ∧ c' = c ∧ l' = 0 then 0 else if t = 0 ∧ c' = c ∧ l' = l ∧ w ≠ 0 ∧ v.2.2 0 c l = 2 then 3 else if t = 4 ∧ c' = c ∧ l' = 0 then w else v.2.2 t c' l' := by
        intro t c' l'
        rw [vo_fin_N]
        have q1 : (vo_set v c w x).2.2 4 c 0 = w := by simp [vo_set, pv_sI, pv_sN, pv_u3]
        have q2 : (vo_set v c w x).2.2 0 c l = v.2.2 0 c l := by simp [vo_set, pv_sI, pv_sN, pv_u3]
        rw [q1, q2]
        rfl
      have e1 : (vo_fin (vo_set v c w x) c l).1 = v.1 ++ [] := by rw [vo_fin_1, List.append_nil]; rfl
      refine ⟨pv_stp0 (a := l) h.1 hl e1 ?_ ?_ ?_ ?_, fun c' l' hc' hl' => ?_⟩
      · intro n hn; cases hn
      · intro t c' l' q q3 q4; rw [e22]; simp [q, q3, q4]
      · intro d hd
        refine pv_CO_op (c0 := c) (a := l) (o := w) (s' := (if w ≠ 0 ∧ v.2.2 0 c l = 2 then 3 else v.2.2 0 c l)) (h.1.2.2.2 d hd) (fun d => ?_) (fun d => by rw [e22]; simp) (fun d l' => ?_) hw ?_ z.1
        · rw [e22]
          by_cases q : d = c
          · subst q; simp [z.1]
          · simp [q]
        · rw [e22]
          by_cases q : d = c ∧ l' = l
          · obtain ⟨rfl, rfl⟩ := q; simp
          · rw [if_neg q]
            by_cases q1 : d = c
            · have q2 : l' ≠ l := fun e => q ⟨q1, e⟩
              simp [q2]
            · simp [q1]
        · split <;> omega
      · intro L K h13
        have K2 : ∀ j d, pv_cn j l d (vo_fin (vo_set v c w x) c l).1 = pv_cn j l d v.1 := fun j d => by
          have := K j d
          rw [pv_cn_nil] at this
          exact this
        by_cases q : w ≠ 0 ∧ v.2.2 0 c l = 2
        · unfold pv_LI
          simp only [e22, K2]
          exact pv_t_hit (c := c) L hc (Or.inl q.2) (fun d => by simp [q])
        · refine pv_LI_same L (fun d => ?_) (fun d => ?_) (fun d => ?_) ?_ ?_ ?_ K2
          · rw [e22]; simp [q]
          · rw [e22]; simp
          · rw [e22]; simp
          · rw [e22]; simp
          · rw [e22]; simp
          · rw [e22]; simp
      · rw [e22, e22]
        have := h.2 c' l' hc' hl'
        simp
        exact this
  · rw [if_neg z]; exact h
theorem inv_leave {v : pv_V} {c l : Nat} (h : INV v) (hc : c < 4) (hl : l < 4) : INV (vo_leave v c l) := by
  unfold vo_leave
  by_cases z : v.2.2 0 c l = 1 ∨ v.2.2 0 c l = 2 ∨ v.2.2 0 c l = 3
  · rw [if_pos z]
    have e22 : (vo_lv v c l).2.2 = pv_u3 v.2.2 0 c l (12 - v.2.2 0 c l) := rfl
    refine ⟨pv_stp0 (N := [(v.2.2 0 c l + 1, l, c, 4, c, 0, if v.2.2 0 c l = 3 then v.2.1 1 c l else 0)]) (a := l) h.1 hl rfl ?_ ?_ ?_ ?_, fun c' l' hc' hl' => h.2 c' l' hc' hl'⟩
    · intro n hn; obtain rfl := List.mem_singleton.mp hn
      exact ⟨⟨hl, hc, by show 0 ≤ 3; omega, by simp [mkd, mto, mrq, mnm]; omega⟩, rfl, by simp [mkd]; omega⟩
    · intro t c' l' q _ _; rw [e22]; simp [pv_u3, q]
    · intro d hd
      refine pv_CO_st (c0 := c) (a := l) (s' := 12 - v.2.2 0 c l) (h.1.2.2.2 d hd) (fun _ => rfl) (fun _ => rfl) (fun d l' => by rw [e22]; simp [pv_u3]) ?_
      omega
    · intro L K h13
      unfold pv_LI
      rw [e22]
      exact pv_t_lv (got' := fun c => v.2.2 1 c l) (need' := fun c => v.2.2 2 c l) (c := c) L hc z (fun d => by simp [pv_u3]) (fun j d => by have := K j d; rw [pv_cn_one, pv_b1_is] at this; exact this) h13
  · rw [if_neg z]; exact h
