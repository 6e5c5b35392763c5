/-! the home's WRITE with sharers -/
def vd_L (l r s c : Nat) : List pv_Msg := if c ≠ r ∧ pv_sb s c = 1 then [(7, l, 4, c, r, 0, 0)] else []
theorem vd_L_1 (u : pv_V) (l r s c : Nat) : (vo_d1 u l r s c).1 = u.1 ++ vd_L l r s c := by
  unfold vo_d1 vd_L
  split
  · rfl
  · exact (List.append_nil _).symm
theorem vd_L_in {l r s c : Nat} {n : pv_Msg} (h : n ∈ vd_L l r s c) : n = (7, l, 4, c, r, 0, 0) ∧ c ≠ r ∧ pv_sb s c = 1 := by
  unfold vd_L at h
  split at h
  · next z => exact ⟨List.mem_singleton.mp h, z⟩
  · cases h
theorem vd_L_cn (j l d r s c : Nat) : pv_cn j l d (vd_L l r s c) = (if c ≠ r then pv_sb s c else 0) * pv_bk j d 7 c r 0 := by
  have := pv_sb_le s c
  unfold vd_L
  by_cases z : c = r
  · simp [z, pv_cn_nil]
  · rcases (show pv_sb s c = 0 ∨ pv_sb s c = 1 by omega) with e | e
    · simp [z, e, pv_cn_nil]
    · simp [z, e, pv_cn_one, pv_b1_is]
theorem bk7_a {j d c r : Nat} (h : d ≠ r) (hj : j ≠ 8) : pv_bk j d 7 c r 0 = 0 := by
  unfold pv_bk
  split <;> simp <;> first | omega | (exact absurd rfl hj)
theorem bk7_b {d c r : Nat} : pv_bk 8 d 7 c r 0 = if c = d then 1 else 0 := by simp [pv_bk]
theorem bk7_c {j c r : Nat} (h : c ≠ r) : pv_bk j r 7 c r 0 = if j = 9 then 1 else 0 := by
  unfold pv_bk
  split <;> simp [h] <;> first | omega | skip
theorem cnt_3 : ∀ s, s < 16 → ∀ r, r < 4 → pv_cnt s r ≤ 3 := by decide
theorem iv_hw1 {v : pv_V} {k : Nat} {m : pv_Msg} (h : pv_Inv v) (hm : v.1[k]? = some m) (hkd : mkd m = 1) (h0 : v.2.2 5 0 (mln m) ≤ 1) : pv_Inv (pv_del (vo_hw1 v (mln m) (mrq m)) k) := by
  obtain ⟨w1, w2, w3, w4⟩ := h.1 m (List.mem_of_getElem? hm)
  have wt : mto m = 4 := by omega
  have wn : mnm m = 0 := by omega
  have hb := pv_has hm 1 (mrq m)
  have L0 := h.2.2.1 _ w1
  have hsh := L0.2.2.2.2.2.1
  have e22 : (pv_del (vo_hw1 v (mln m) (mrq m)) k).2.2 = pv_u3 (pv_u3 (pv_u3 v.2.2 7 0 (mln m) 0) 6 0 (mln m) (mrq m)) 5 0 (mln m) 2 := by
    have : (vo_d4 (pv_snd v (9, mln m, 4, mrq m, mrq m, pv_cnt (v.2.2 7 0 (mln m)) (mrq m), v.2.1 5 0 (mln m))) (mln m) (mrq m) (v.2.2 7 0 (mln m))).2.2 = v.2.2 := by
      funext t c l
      unfold vo_d4
      rw [vo_d1_N, vo_d1_N, vo_d1_N, vo_d1_N]; rfl
    show pv_u3 (pv_u3 (pv_u3 (vo_d4 _ _ _ _).2.2 7 0 (mln m) 0) 6 0 (mln m) (mrq m)) 5 0 (mln m) 2 = _
    rw [this]
  have e1 : (pv_del (vo_hw1 v (mln m) (mrq m)) k).1 = v.1.eraseIdx k ++ ([(9, mln m, 4, mrq m, mrq m, pv_cnt (v.2.2 7 0 (mln m)) (mrq m), v.2.1 5 0 (mln m))] ++ (vd_L (mln m) (mrq m) (v.2.2 7 0 (mln m)) 0 ++ (vd_L (mln m) (mrq m) (v.2.2 7 0 (mln m)) 1 ++ (vd_L (mln m) (mrq m) (v.2.2 7 0 (mln m)) 2 ++ vd_L (mln m) (mrq m) (v.2.2 7 0 (mln m)) 3)))) := by
    show (vo_d4 (pv_snd v (9, mln m, 4, mrq m, mrq m, pv_cnt (v.2.2 7 0 (mln m)) (mrq m), v.2.1 5 0 (mln m))) (mln m) (mrq m) (v.2.2 7 0 (mln m))).1.eraseIdx k = _
    unfold vo_d4
    rw [vd_L_1, vd_L_1, vd_L_1, vd_L_1, ← pv_del_app (pv_lt hm)]
    show ((((v.1 ++ [_]) ++ _) ++ _ ++ _) ++ _).eraseIdx k = _
    simp only [List.append_assoc]
  have hin : ∀ n, n ∈ ([(9, mln m, 4, mrq m, mrq m, pv_cnt (v.2.2 7 0 (mln m)) (mrq m), v.2.1 5 0 (mln m))] ++ (vd_L (mln m) (mrq m) (v.2.2 7 0 (mln m)) 0 ++ (vd_L (mln m) (mrq m) (v.2.2 7 0 (mln m)) 1 ++ (vd_L (mln m) (mrq m) (v.2.2 7 0 (mln m)) 2 ++ vd_L (mln m) (mrq m) (v.2.2 7 0 (mln m)) 3))) : List pv_Msg) → n = (9, mln m, 4, mrq m, mrq m, pv_cnt (v.2.2 7 0 (mln m)) (mrq m), v.2.1 5 0 (mln m)) ∨ ∃ c, c < 4 ∧ c ≠ mrq m ∧ pv_sb (v.2.2 7 0 (mln m)) c = 1 ∧ n = (7, mln m, 4, c, mrq m, 0, 0) := by
    intro n hn
    rcases List.mem_append.mp hn with z | z
    · exact Or.inl (List.mem_singleton.mp z)
    · rcases List.mem_append.mp z with z | z
      · have := vd_L_in z; exact Or.inr ⟨0, by omega, this.2.1, this.2.2, this.1⟩
      · rcases List.mem_append.mp z with z | z
        · have := vd_L_in z; exact Or.inr ⟨1, by omega, this.2.1, this.2.2, this.1⟩
        · rcases List.mem_append.mp z with z | z
          · have := vd_L_in z; exact Or.inr ⟨2, by omega, this.2.1, this.2.2, this.1⟩
          · have := vd_L_in z; exact Or.inr ⟨3, by omega, this.2.1, this.2.2, this.1⟩
  refine pv_stp h hm e1 ?_ (pv_rl_free ?_) ?_ ?_ ?_ ?_
  · intro n hn
    rcases hin n hn with rfl | ⟨c, hc, hcr, hsb, rfl⟩
    · exact ⟨⟨w1, w2, cnt_3 _ hsh _ w2, by simp [mkd, mto, mrq, mnm]⟩, rfl⟩
    · exact ⟨⟨w1, w2, by show 0 ≤ 3; omega, by simp [mkd, mto, mnm]; exact ⟨hc, hcr⟩⟩, rfl⟩
  · intro n hn
    rcases hin n hn with rfl | ⟨c, hc, hcr, hsb, rfl⟩
    · simp [mkd]
    · simp [mkd]
  · intro n hn _ e
    rcases hin n hn with rfl | ⟨c, hc, hcr, hsb, rfl⟩
    · exact absurd e (by simp [mkd])
    · exact pv_no_left (c := c) L0 hc (by omega)
  · intro t c l z _ _; rw [e22]; simp [pv_u3, z]
  · intro c hc
    refine pv_CO_same (h.2.2.2 c hc) fun t l ht => ?_
    rw [e22]
    rcases ht with rfl | rfl | rfl <;> simp [pv_u3]
  · intro L K h13
    rw [hkd, wt, wn] at K hb
    have hb1 : 1 ≤ pv_cn 1 (mln m) (mrq m) v.1 := by simpa [pv_bk] using hb
    have hfr : ∀ d, d < 4 → 1 ≤ pv_cn 6 (mln m) d v.1 → ∃ e, e < 4 ∧ 1 ≤ pv_cn 4 (mln m) e v.1 := by
      intro d _ z
      obtain ⟨n, hn, h1⟩ := pv_cn_ex z
      obtain ⟨x1, x2, x3, x4⟩ := h.1 n hn
      by_cases el : mln n = mln m
      · simp only [pv_b1, if_pos el, pv_bk] at h1
        split at h1
        · next q =>
          refine ⟨mto n, by omega, ?_⟩
          have := pv_cn_in (j := 4) (a := mln m) (d := mto n) hn
          simp only [pv_b1, if_pos el, pv_bk, q.1, true_and, ↓reduceIte] at this
          exact this
        · omega
      · simp only [pv_b1, if_neg el] at h1; omega
    have K2 : ∀ j d, pv_cn j (mln m) d (pv_del (vo_hw1 v (mln m) (mrq m)) k).1 + pv_bk j d 1 4 (mrq m) 0 = pv_cn j (mln m) d v.1 + (pv_bk j d 9 (mrq m) (mrq m) (pv_cnt (v.2.2 7 0 (mln m)) (mrq m)) + ((if 0 ≠ mrq m then pv_sb (v.2.2 7 0 (mln m)) 0 else 0) * pv_bk j d 7 0 (mrq m) 0 + ((if 1 ≠ mrq m then pv_sb (v.2.2 7 0 (mln m)) 1 else 0) * pv_bk j d 7 1 (mrq m) 0 + ((if 2 ≠ mrq m then pv_sb (v.2.2 7 0 (mln m)) 2 else 0) * pv_bk j d 7 2 (mrq m) 0 + (if 3 ≠ mrq m then pv_sb (v.2.2 7 0 (mln m)) 3 else 0) * pv_bk j d 7 3 (mrq m) 0)))) := by
      intro j d
      have := K j d
      rw [pv_cn_app, pv_cn_app, pv_cn_app, pv_cn_app, pv_cn_one, pv_b1_is, vd_L_cn, vd_L_cn, vd_L_cn, vd_L_cn] at this
      exact this
    clear K
    unfold pv_LI
    rw [e22, show pv_u3 (pv_u3 (pv_u3 v.2.2 7 0 (mln m) 0) 6 0 (mln m) (mrq m)) 5 0 (mln m) 2 5 0 (mln m) = 2 by simp [pv_u3], show pv_u3 (pv_u3 (pv_u3 v.2.2 7 0 (mln m) 0) 6 0 (mln m) (mrq m)) 5 0 (mln m) 2 6 0 (mln m) = mrq m by simp [pv_u3], show pv_u3 (pv_u3 (pv_u3 v.2.2 7 0 (mln m) 0) 6 0 (mln m) (mrq m)) 5 0 (mln m) 2 7 0 (mln m) = 0 by simp [pv_u3]]
    generalize hsg : v.2.2 7 0 (mln m) = s at *
    generalize hr : mrq m = r at *
    refine pv_t_hw1 (n := pv_cnt s r) (sh := v.2.2 7 0 (mln m)) L w2 h0 hb1 hfr (fun d hd hdr j hj => ?_) (fun d hd hdr => ?_) ?_ (fun j => ?_) h13
    · have := K2 j d
      rw [pv_bk_0 (by omega) (by omega), pv_bk_0 (by omega) (by omega), bk7_a hdr hj, bk7_a hdr hj, bk7_a hdr hj, bk7_a hdr hj] at this
      simpa using this
    · have := K2 8 d
      rw [pv_bk_0 (by omega) (by omega), pv_bk_0 (by omega) (by omega), bk7_b, bk7_b, bk7_b, bk7_b] at this
      rw [hsg]
      show pv_cn 8 (mln m) d _ = pv_cn 8 (mln m) d v.1 + pv_sb s d
      rcases (show d = 0 ∨ d = 1 ∨ d = 2 ∨ d = 3 by omega) with rfl | rfl | rfl | rfl <;> simp [hdr] at this <;> omega
    · have := K2 10 4
      rw [bk7_a (by omega) (by omega), bk7_a (by omega) (by omega), bk7_a (by omega) (by omega), bk7_a (by omega) (by omega)] at this
      have e : pv_bk 10 4 9 r r (pv_cnt s r) = 0 := by simp [pv_bk]; omega
      have e' : pv_bk 10 4 1 4 r 0 = 0 := by simp [pv_bk]
      rw [e, e'] at this
      simpa using this
    · have := K2 j r
      have q : ∀ c, (if c ≠ r then pv_sb s c else 0) * pv_bk j r 7 c r 0 = (if c ≠ r then pv_sb s c else 0) * (if j = 9 then 1 else 0) := by
        intro c
        by_cases z : c = r
        · simp [z]
        · rw [bk7_c z]
      rw [q, q, q, q] at this
      show pv_cn j (mln m) r _ + pv_bk j r 1 4 r 0 = pv_cn j (mln m) r v.1 + pv_bk j r 9 r r (pv_cnt s r) + if j = 9 then pv_cnt s r else 0
      have qc : pv_cnt s r = (if 0 ≠ r then pv_sb s 0 else 0) + (if 1 ≠ r then pv_sb s 1 else 0) + (if 2 ≠ r then pv_sb s 2 else 0) + (if 3 ≠ r then pv_sb s 3 else 0) := rfl
      by_cases z9 : j = 9
      · simp only [z9, ↓reduceIte, Nat.mul_one] at this ⊢
        omega
      · simp only [z9, ↓reduceIte, Nat.mul_zero] at this ⊢
        omega
