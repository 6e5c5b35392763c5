/-! a message handed over: the class's handOver and the model's move -/
theorem vo_fin_1 (v : pv_V) (c l : Nat) : (vo_fin v c l).1 = v.1 := by
  unfold vo_fin
  by_cases e0 : v.2.2 4 c 0 = 0 <;> by_cases e2 : v.2.2 0 c l = 2 <;> simp [e0, e2, pv_sN, pv_sI]
theorem vo_ack_1 (v : pv_V) (c l : Nat) : (vo_ack v c l).1 = v.1 := by
  unfold vo_ack
  split
  · rw [vo_fin_1]; rfl
  · rfl
theorem vo_dd_1 (v : pv_V) (c l : Nat) : (vo_dd v c l).1 = v.1 := by
  unfold vo_dd
  split
  · rw [vo_ack_1]; rfl
  · rfl
theorem vo_da_1 (v : pv_V) (c l n : Nat) (x : Int32) : (vo_da v c l n x).1 = v.1 := by
  unfold vo_da
  split
  · rw [vo_fin_1]; rfl
  · rw [vo_ack_1]; rfl
theorem vo_d1_len0 (v : pv_V) (l r s c : Nat) : v.1.length ≤ (vo_d1 v l r s c).1.length := by
  unfold vo_d1
  split
  · simp [pv_snd]
  · exact Nat.le_refl _
theorem vo_op_len (v : pv_V) (m : pv_Msg) : v.1.length ≤ (vo_op v m).1.length ∧ (vo_op v m).1.length ≤ v.1.length + 5 := by
  have s1 : ∀ (u : pv_V) n, (pv_snd u n).1.length = u.1.length + 1 := fun u n => by simp [pv_snd]
  have sN : ∀ (u : pv_V) t c l x, (pv_sN u t c l x).1.length = u.1.length := fun _ _ _ _ _ => rfl
  have sI : ∀ (u : pv_V) t c l x, (pv_sI u t c l x).1.length = u.1.length := fun _ _ _ _ _ => rfl
  unfold vo_op
  split
  · split
    · unfold vo_hr
      split
      · unfold vo_hr0; rw [sN, sN, s1]; omega
      · split
        · unfold vo_hr1; rw [sN, s1]; omega
        · unfold vo_hr2; rw [sN, sN, s1]; omega
    · split
      · unfold vo_hw
        split
        · unfold vo_hw2; rw [sN, sN, s1]; omega
        · unfold vo_hw1 vo_d4
          rw [sN, sN, sN]
          generalize hu : pv_snd v (9, mln m, 4, mrq m, mrq m, pv_cnt (v.2.2 7 0 (mln m)) (mrq m), v.2.1 5 0 (mln m)) = u
          have hl : u.1.length = v.1.length + 1 := by rw [← hu, s1]
          generalize v.2.2 7 0 (mln m) = s
          have a0 := vo_d1_len u (mln m) (mrq m) s 0
          have b0 := vo_d1_len0 u (mln m) (mrq m) s 0
          generalize vo_d1 u (mln m) (mrq m) s 0 = u0 at *
          have a1 := vo_d1_len u0 (mln m) (mrq m) s 1
          have b1 := vo_d1_len0 u0 (mln m) (mrq m) s 1
          generalize vo_d1 u0 (mln m) (mrq m) s 1 = u1 at *
          have a2 := vo_d1_len u1 (mln m) (mrq m) s 2
          have b2 := vo_d1_len0 u1 (mln m) (mrq m) s 2
          generalize vo_d1 u1 (mln m) (mrq m) s 2 = u2 at *
          have a3 := vo_d1_len u2 (mln m) (mrq m) s 3
          have b3 := vo_d1_len0 u2 (mln m) (mrq m) s 3
          omega
      · split
        · unfold vo_hl
          split
          · rw [s1, sN]; split
            · rw [sI]; omega
            · omega
          · rw [s1]; split
            · rw [sN, sN]; omega
            · rw [sN]; omega
        · unfold vo_hd; rw [sN, sI]; omega
  · split
    · unfold vo_fr; rw [sN, s1, s1]; omega
    · split
      · unfold vo_fw; rw [sN, s1]; omega
      · split
        · unfold vo_dr; rw [sN, s1]; omega
        · split
          · rw [sN]; omega
          · split
            · rw [vo_da_1]; omega
            · split
              · unfold vo_so; rw [vo_fin_1]; rw [sN, sI]; omega
              · rw [vo_dd_1]; omega
theorem px_n {v : pv_V} {X : zXS} (h : PX v X) : X 2 0 0 = nI v.1.length := h 2 0 0 (by unfold pq_xd; omega)
theorem pm_n {v : pv_V} {M : zMS} (h : PM v M) : M 15 0 = nI v.1.length := h 15 0 (by unfold pq_md; omega)
theorem px_hand {v : pv_V} {X : zXS} {M : zMS} {k : Nat} (h : PX v X) (hb : v.1.length < 2 ^ 27) (hk : k < v.1.length) (ok : vo_ok v (pq_get v.1 k)) : PX (pv_del (vo_op v (pq_get v.1 k)) k) (x_S_handOver X M k) := by
  obtain ⟨a0, a1, a3, a4, a5, a6⟩ := px_m h hk
  have p3 : r_A_part X M (nI k) 3 = nI (mto (pq_get v.1 k)) := by unfold r_A_part; rw [nI_clamp (by omega)]; exact a3
  have ln := vo_op_len v (pq_get v.1 k)
  have key : ∀ Y, PX (vo_op v (pq_get v.1 k)) Y → PX (pv_del (vo_op v (pq_get v.1 k)) k) (x_A_remove Y M k ((Int32.toNatClampNeg (Y 2 0 0)) - 1)) := by
    intro Y hY
    rw [px_n hY, nI_clamp (by omega)]
    exact px_del hY (by omega) (by omega) (by omega)
  have ht : mto (pq_get v.1 k) ≤ 4 := ok.2.2.2.1
  unfold x_S_handOver
  rw [p3]
  by_cases h4 : mto (pq_get v.1 k) = 4
  · rw [if_pos (show nI (mto (pq_get v.1 k)) = 4 by rw [h4]; rfl)]
    exact key _ (px_opH h hb hk ok h4)
  · rw [if_neg (fun e => h4 ((nI_is (by omega) (by omega) (show (4 : Int32) = nI 4 from rfl)).mp e)), nI_clamp (by omega)]
    exact key _ (px_opC h hb hk ok h4)
theorem pm_move {v : pv_V} {X : zXS} {M : zMS} {k : Nat} (h : PM v M) (hb : v.1.length < 2 ^ 27) (hk : k < v.1.length) (ok : vo_ok v (pq_get v.1 k)) (hf : r_M_move X M k = 2) : PM (pv_del (vo_op v (pq_get v.1 k)) k) (m_M_move X M k) := by
  obtain ⟨a0, a1, a3, a4, a5, a6⟩ := pm_m h hk
  have ik : (nI k).toNatClampNeg = k := nI_clamp (by omega)
  have hk0 : m_kept M k = 0 := by
    by_cases z : m_kept M k = 0
    · exact z
    · unfold r_M_move at hf; rw [if_neg z] at hf; exact absurd hf (by decide)
  have hs0 : r_M_stalls X M k = 0 := by
    by_cases z : r_M_stalls X M k = 0
    · exact z
    · unfold r_M_move at hf; rw [if_pos hk0, if_neg z] at hf; exact absurd hf (by decide)
  have hd := pm_del (kk := k) (n := v.1.length - 1) h (by omega) (by omega) (by omega)
  have hbd : (pv_del v k).1.length < 2 ^ 27 := by
    show (v.1.eraseIdx k).length < _
    rw [List.length_eraseIdx_of_lt hk]; omega
  rw [← vd_op _ hk]
  unfold m_M_move
  rw [if_pos hk0, if_pos hs0, ik, a0, a1, a3, a4, a5, a6, pm_n h, nI_clamp (show v.1.length < 2 ^ 31 by omega)]
  generalize m_strike M k (v.1.length - 1) = N at *
  have ok' : vo_ok (pv_del v k) (pq_get v.1 k) := ok
  generalize pq_get v.1 k = m at *
  generalize pv_del v k = u at *
  obtain ⟨o1, o2, o3, o4, o5, o6, o7, o8, o9, o10⟩ := ok'
  have il : (nI (mln m)).toNatClampNeg = mln m := nI_clamp (by omega)
  unfold vo_op
  by_cases h4 : mto m = 4
  · obtain ⟨g1, g2⟩ := o9 h4
    obtain ⟨b1, b2, b3, b4⟩ := o8 _ o1
    rw [if_pos h4, h4]
    rw [if_pos (show (4 : Int32) ≤ nI 4 by decide)]
    rcases (show mkd m = 0 ∨ mkd m = 1 ∨ mkd m = 2 ∨ mkd m = 3 ∨ mkd m = 4 ∨ mkd m = 9 by omega) with e | e | e | e | e | e <;> rw [e]
    · simp [show nI 0 = (0 : Int32) from rfl]
      exact pm_hr hd (by omega) o1 o2 b1 b2 b3
    · simp [show nI 1 = (1 : Int32) from rfl]
      exact pm_hw hd (by omega) o1 o2 b1 b2 b3
    · simp [show nI 2 = (2 : Int32) from rfl, show ¬ (5 : Int32) ≤ 2 by decide]
      exact pm_hl (kd := 2) hd (by omega) o1 o2 b1 b2 b3 (by omega)
    · simp [show nI 3 = (3 : Int32) from rfl, show ¬ (5 : Int32) ≤ 3 by decide]
      exact pm_hl (kd := 3) hd (by omega) o1 o2 b1 b2 b3 (by omega)
    · simp [show nI 4 = (4 : Int32) from rfl, show ¬ (5 : Int32) ≤ 4 by decide]
      exact pm_hl (kd := 4) hd (by omega) o1 o2 b1 b2 b3 (by omega)
    · simp [show nI 9 = (9 : Int32) from rfl, il, show (5 : Int32) ≤ 9 by decide]
      exact pm_hd hd o1 b3
  · obtain ⟨g1, g2, g3, g4⟩ := o10 h4
    have hc : mto m < 4 := by omega
    obtain ⟨b1, b2, b3⟩ := o6 _ _ hc o1
    have c1 := o7 _ hc
    rw [if_neg h4]
    rw [if_neg (show ¬ (4 : Int32) ≤ nI (mto m) from by rcases (show mto m = 0 ∨ mto m = 1 ∨ mto m = 2 ∨ mto m = 3 by omega) with e | e | e | e <;> rw [e] <;> decide)]
    rcases (show mkd m = 5 ∨ mkd m = 6 ∨ mkd m = 7 ∨ mkd m = 8 ∨ mkd m = 9 ∨ mkd m = 10 ∨ mkd m = 11 by omega) with e | e | e | e | e | e | e <;> rw [e]
    · simp only [↓reduceIte]
      exact pm_fr hd (by omega) hc o1 o2 (g2 (Or.inl e))
    · simp only [↓reduceIte, show ¬ (6 = 5) by omega]
      exact pm_fw hd (by omega) hc o1 o2 (g2 (Or.inr e))
    · simp only [↓reduceIte, show ¬ (7 = 5) by omega, show ¬ (7 = 6) by omega]
      exact pm_dr hd (by omega) hc o1 o2 (g3 e)
    · simp only [↓reduceIte, show ¬ (8 = 5) by omega, show ¬ (8 = 6) by omega, show ¬ (8 = 7) by omega]
      exact pm_lf hd hc o1
    · simp only [↓reduceIte, show ¬ (9 = 5) by omega, show ¬ (9 = 6) by omega, show ¬ (9 = 7) by omega, show ¬ (9 = 8) by omega]
      exact pm_da hd hc o1 c1 b1 (g4 e).2 (by omega) (by omega)
    · simp only [↓reduceIte, show ¬ (10 = 5) by omega, show ¬ (10 = 6) by omega, show ¬ (10 = 7) by omega, show ¬ (10 = 8) by omega, show ¬ (10 = 9) by omega]
      exact pm_so hd hc o1 c1
    · simp only [↓reduceIte, show ¬ (11 = 5) by omega, show ¬ (11 = 6) by omega, show ¬ (11 = 7) by omega, show ¬ (11 = 8) by omega, show ¬ (11 = 9) by omega, show ¬ (11 = 10) by omega]
      exact pm_dd hd hc o1 c1 b1 (by omega) (by omega)
theorem m_move_no {X : zXS} {M : zMS} {k : Nat} (h : r_M_move X M k ≠ 2) : m_M_move X M k = M := by
  unfold r_M_move at h
  unfold m_M_move
  by_cases z : m_kept M k = 0
  · rw [if_pos z] at h ⊢
    by_cases y : r_M_stalls X M k = 0
    · rw [if_pos y] at h; exact absurd rfl h
    · rw [if_neg y]
  · rw [if_neg z]
