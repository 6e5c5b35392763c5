/-! sending and taking away, in both pictures -/
theorem x_sh_at (w : Nat) (hw : w < 7) : ∀ (c i : Nat) (X : zXS) (t' c' l' : Nat), i + c < 2 ^ 30 → x_sh w c i X t' c' l' = if t' = 0 ∧ c' = w ∧ i ≤ l' ∧ l' < i + c then X 0 w (l' + 1) else X t' c' l'
  | 0, i, X, t', c', l', _ => by
    rw [x_sh, if_neg (by omega)]
  | c + 1, i, X, t', c', l', hb => by
    rw [x_sh, x_sh_at w hw c (i + 1) _ t' c' l' (by omega), nI_clamp (show w < 2 ^ 31 by omega), nI_clamp (show i < 2 ^ 31 by omega), nI_1, nI_clamp (show i + 1 < 2 ^ 31 by omega), u3_at, u3_at]
    by_cases h : t' = 0 ∧ c' = w
    · obtain ⟨rfl, rfl⟩ := h
      by_cases h1 : l' = i
      · subst h1
        rw [if_neg (by omega), if_pos ⟨rfl, rfl, rfl⟩, if_pos (by omega)]
      · by_cases h2 : i + 1 ≤ l' ∧ l' < i + 1 + c
        · rw [if_pos (by omega), if_neg (by omega), if_pos (by omega)]
        · rw [if_neg (by omega), if_neg (by omega), if_neg (by omega)]
    · rw [if_neg (by omega), if_neg (by omega), if_neg (by omega)]
theorem x_rm_at (kk n : Nat) (hk : kk ≤ n) (hn : n < 2 ^ 29) : ∀ (c w : Nat) (X : zXS) (t' c' l' : Nat), w + c ≤ 7 → x_rm kk n c w X t' c' l' = if t' = 0 ∧ w ≤ c' ∧ c' < w + c ∧ kk ≤ l' ∧ l' < n then X 0 c' (l' + 1) else X t' c' l'
  | 0, w, X, t', c', l', _ => by
    rw [x_rm, if_neg (by omega)]
  | c + 1, w, X, t', c', l', hb => by
    rw [x_rm, x_rm_at kk n hk hn c (w + 1) _ t' c' l' (by omega), x_sh_at w (by omega) _ _ _ _ _ _ (by omega), x_sh_at w (by omega) _ _ _ _ _ _ (by omega)]
    by_cases h : t' = 0 ∧ kk ≤ l' ∧ l' < n
    · obtain ⟨rfl, h2, h3⟩ := h
      by_cases h1 : c' = w
      · subst h1
        rw [if_neg (by omega), if_pos (by omega), if_pos (by omega)]
      · by_cases h4 : w + 1 ≤ c' ∧ c' < w + 1 + c
        · rw [if_pos (by omega), if_neg (by omega), if_pos (by omega)]
        · rw [if_neg (by omega), if_neg (by omega), if_neg (by omega)]
    · rw [if_neg (by omega), if_neg (by omega), if_neg (by omega)]
theorem x_remove_at {X : zXS} {M : zMS} {kk n : Nat} (hk : kk ≤ n) (hn : n < 2 ^ 29) (t' c' l' : Nat) (h0 : X 2 0 0 = nI (n + 1)) : x_A_remove X M kk n t' c' l' = if t' = 0 ∧ c' < 7 ∧ kk ≤ l' ∧ l' < n then X 0 c' (l' + 1) else if t' = 2 ∧ c' = 0 ∧ l' = 0 then nI n else X t' c' l' := by
  unfold x_A_remove
  rw [x_rm_at kk n hk hn 7 0 _ _ _ _ (by omega), u3_at, u3_at, h0, nI_pred]
  by_cases h : t' = 0 ∧ c' < 7 ∧ kk ≤ l' ∧ l' < n
  · rw [if_pos (by omega), if_neg (by omega), if_pos h]
  · rw [if_neg (by omega), if_neg h]
theorem m_shift_at : ∀ (c i : Nat) (M : zMS) (t' j : Nat), i + c < 2 ^ 30 → m_shift c i M t' j = if 16 ≤ t' ∧ t' ≤ 22 ∧ i ≤ j ∧ j < i + c then M t' (j + 1) else M t' j
  | 0, i, M, t', j, _ => by
    rw [m_shift, if_neg (by omega)]
  | c + 1, i, M, t', j, hb => by
    have hs : ∀ t'' j', m_stp M i t'' j' = if (16 ≤ t'' ∧ t'' ≤ 22) ∧ j' = i then M t'' (i + 1) else M t'' j' := by
      intro t'' j'
      unfold m_stp
      rw [nI_clamp (show i < 2 ^ 31 by omega), nI_1, nI_clamp (show i + 1 < 2 ^ 31 by omega)]
      simp only [u2_at]
      by_cases hj : j' = i
      · subst hj
        by_cases ht : 16 ≤ t'' ∧ t'' ≤ 22
        · rcases (show t'' = 16 ∨ t'' = 17 ∨ t'' = 18 ∨ t'' = 19 ∨ t'' = 20 ∨ t'' = 21 ∨ t'' = 22 by omega) with rfl | rfl | rfl | rfl | rfl | rfl | rfl <;> simp
        · rw [if_neg (by omega), if_neg (by omega), if_neg (by omega), if_neg (by omega), if_neg (by omega), if_neg (by omega), if_neg (by omega), if_neg (by omega)]
      · simp [hj]
    rw [m_shift, m_shift_at c (i + 1) _ t' j (by omega), hs, hs]
    by_cases h : 16 ≤ t' ∧ t' ≤ 22
    · by_cases h1 : j = i
      · subst h1
        rw [if_neg (by omega), if_pos ⟨h, rfl⟩, if_pos (by omega)]
      · by_cases h2 : i + 1 ≤ j ∧ j < i + 1 + c
        · rw [if_pos (by omega), if_neg (by omega), if_pos (by omega)]
        · rw [if_neg (by omega), if_neg (by omega), if_neg (by omega)]
    · rw [if_neg (by omega), if_neg (by omega), if_neg (by omega)]
theorem m_strike_at {M : zMS} {kk n : Nat} (hk : kk ≤ n) (hn : n < 2 ^ 29) (t' j : Nat) (h0 : M 15 0 = nI (n + 1)) : m_strike M kk n t' j = if 16 ≤ t' ∧ t' ≤ 22 ∧ kk ≤ j ∧ j < n then M t' (j + 1) else if t' = 15 ∧ j = 0 then nI n else M t' j := by
  unfold m_strike
  rw [m_shift_at _ _ _ _ _ (by omega), u2_at, u2_at, h0, nI_pred]
  by_cases h : 16 ≤ t' ∧ t' ≤ 22 ∧ kk ≤ j ∧ j < n
  · rw [if_pos (by omega), if_neg (by omega), if_pos h]
  · rw [if_neg (by omega), if_neg h]
theorem px_del {v : pv_V} {X : zXS} {M : zMS} {kk n : Nat} (h : PX v X) (hn : v.1.length = n + 1) (hk : kk ≤ n) (hb : n < 2 ^ 29) : PX (pv_del v kk) (x_A_remove X M kk n) := by
  have h0 : X 2 0 0 = nI (n + 1) := by rw [h 2 0 0 (by unfold pq_xd; omega)]; simp [pq_xe, hn]
  have hl : (pv_del v kk).1.length = n := by simp [pv_del, List.length_eraseIdx, hn]; omega
  intro t' c' l' hd
  rw [hl] at hd
  rw [x_remove_at hk hb t' c' l' h0]
  rcases hd with ⟨rfl, h1, h2⟩ | ⟨ht, h1, h2⟩ | ⟨rfl, rfl, rfl⟩ | ⟨ht, h1, rfl⟩ | ⟨ht, rfl, h2⟩
  · show _ = pq_at (v.1.eraseIdx kk) l' c'
    unfold pq_at
    rw [pq_get_del]
    by_cases hlk : l' < kk
    · rw [if_neg (by omega), if_neg (by omega), if_pos hlk, h 0 c' l' (by unfold pq_xd; omega)]
      rfl
    · rw [if_pos (by omega), if_neg hlk, h 0 c' (l' + 1) (by unfold pq_xd; omega)]
      rfl
  · rw [if_neg (by omega), if_neg (by omega), h t' c' l' (by unfold pq_xd; omega)]
    rcases ht with rfl | rfl | rfl | rfl <;> rfl
  · rw [if_neg (by omega), if_pos (by omega)]
    show nI n = nI (pv_del v kk).1.length
    rw [hl]
  · rw [if_neg (by omega), if_neg (by omega), h t' c' 0 (by unfold pq_xd; omega)]
    rcases ht with rfl | rfl | rfl | rfl | rfl <;> rfl
  · rw [if_neg (by omega), if_neg (by omega), h t' 0 l' (by unfold pq_xd; omega)]
    rcases ht with rfl | rfl | rfl | rfl <;> rfl
theorem pm_del {v : pv_V} {M : zMS} {kk n : Nat} (h : PM v M) (hn : v.1.length = n + 1) (hk : kk ≤ n) (hb : n < 2 ^ 29) : PM (pv_del v kk) (m_strike M kk n) := by
  have h0 : M 15 0 = nI (n + 1) := by rw [h 15 0 (by unfold pq_md; omega)]; simp [pq_me, hn]
  have hl : (pv_del v kk).1.length = n := by simp [pv_del, List.length_eraseIdx, hn]; omega
  intro t' i' hd
  rw [hl] at hd
  rw [m_strike_at hk hb t' i' h0]
  rcases hd with ⟨ht, h1⟩ | ⟨ht, h1⟩ | ⟨rfl, rfl⟩ | ⟨ht, h1⟩
  · rw [if_neg (by omega), if_neg (by omega), h t' i' (by unfold pq_md; omega)]
    rcases ht with rfl | rfl | rfl | rfl | rfl <;> rfl
  · rw [if_neg (by omega), if_neg (by omega), h t' i' (by unfold pq_md; omega)]
    rcases ht with rfl | rfl | rfl | rfl | rfl | rfl | rfl | rfl | rfl <;> rfl
  · rw [if_neg (by omega), if_pos (by omega)]
    show nI n = nI (pv_del v kk).1.length
    rw [hl]
  · have key : ∀ w, pq_at (v.1.eraseIdx kk) i' w = if i' < kk then pq_at v.1 i' w else pq_at v.1 (i' + 1) w := by
      intro w
      unfold pq_at
      rw [pq_get_del]
      split <;> rfl
    by_cases hik : i' < kk
    · rw [if_neg (by omega), if_neg (by omega), h t' i' (by unfold pq_md; omega)]
      rcases ht with rfl | rfl | rfl | rfl | rfl | rfl | rfl <;> simp only [pq_me, pv_del] <;> rw [key, if_pos hik]
    · rw [if_pos (by omega), h t' (i' + 1) (by unfold pq_md; omega)]
      rcases ht with rfl | rfl | rfl | rfl | rfl | rfl | rfl <;> simp only [pq_me, pv_del] <;> rw [key, if_neg hik]
theorem px_snd {v : pv_V} {X : zXS} {M : zMS} {m : pv_Msg} {kd ln sn to rq nm : Int32} (h : PX v X) (hb : v.1.length < 2 ^ 29) (hl : mln m < 4) (hr : mrq m < 4) (hk : mkd m < 2 ^ 29) (e0 : kd = nI (mkd m)) (e1 : ln = nI (mln m)) (e2 : sn = nI (msn m)) (e3 : to = nI (mto m)) (e4 : rq = nI (mrq m)) (e5 : nm = nI (mnm m)) : PX (pv_snd v m) (x_A_send X M kd ln sn to rq nm (mcv m)) := by
  have h0 : X 2 0 0 = nI v.1.length := h 2 0 0 (by unfold pq_xd; omega)
  have hc : (nI v.1.length).toNatClampNeg = v.1.length := nI_clamp (by omega)
  have ht : X 1 (mrq m) (mln m) = v.2.1 0 (mrq m) (mln m) := h 1 _ _ (by unfold pq_xd; omega)
  have hlen : (pv_snd v m).1.length = v.1.length + 1 := by simp [pv_snd]
  have hj : jS0_A_send_137_1 X M kd ln sn to rq nm (mcv m) = if mkd m ≤ 4 then 1 else v.2.1 0 (mrq m) (mln m) + 1 := by
    unfold jS0_A_send_137_1
    rw [e0, e1, e4, nI_clamp (show mrq m < 2 ^ 31 by omega), nI_clamp (show mln m < 2 ^ 31 by omega), ht]
    have e9 : (4 < nI (mkd m)) ↔ 4 < mkd m := nI_ltI (a := 4) (by omega) (by omega)
    by_cases h4 : mkd m ≤ 4
    · rw [if_neg (by rw [e9]; omega), if_pos h4]
    · rw [if_pos (by rw [e9]; omega), if_neg h4]
  intro t' c' l' hd
  rw [hlen] at hd
  unfold x_A_send
  rw [hj, h0, hc, e4, e1, nI_clamp (show mrq m < 2 ^ 31 by omega), nI_clamp (show mln m < 2 ^ 31 by omega)]
  simp only [u3_at]
  rcases hd with ⟨rfl, h1, h2⟩ | ⟨ht9, h1, h2⟩ | ⟨rfl, rfl, rfl⟩ | ⟨ht9, h1, rfl⟩ | ⟨ht9, rfl, h2⟩
  · show _ = pq_at (v.1 ++ [m]) l' c'
    unfold pq_at
    rw [pq_get_snoc _ _ h2]
    by_cases e : l' = v.1.length
    · subst e
      rcases (show c' = 0 ∨ c' = 1 ∨ c' = 2 ∨ c' = 3 ∨ c' = 4 ∨ c' = 5 ∨ c' = 6 by omega) with rfl | rfl | rfl | rfl | rfl | rfl | rfl <;> simp [pq_part, e0, e1, e2, e3, e4, e5]
    · have hx := h 0 c' l' (by unfold pq_xd; omega)
      simp [e, hx, pq_xe, pq_at]
  · rcases ht9 with rfl | rfl | rfl | rfl
    · have hx := h 1 c' l' (by unfold pq_xd; omega)
      simp only [pq_xe, pv_snd, pv_u3] at hx ⊢
      simp [hx]
    · have hx := h 3 c' l' (by unfold pq_xd; omega)
      simp only [pq_xe, pv_snd] at hx ⊢
      simp [hx]
    · have hx := h 4 c' l' (by unfold pq_xd; omega)
      simp only [pq_xe, pv_snd, pv_u3] at hx ⊢
      simp [hx]
    · have hx := h 5 c' l' (by unfold pq_xd; omega)
      simp only [pq_xe, pv_snd] at hx ⊢
      simp [hx]
  · simp [pq_xe, hlen, nI_1]
  · have hx := h t' c' 0 (by unfold pq_xd; omega)
    rcases ht9 with rfl | rfl | rfl | rfl | rfl <;> (simp only [pq_xe, pv_snd, pv_u3] at hx ⊢; simp [hx])
  · have hx := h t' 0 l' (by unfold pq_xd; omega)
    rcases ht9 with rfl | rfl | rfl | rfl <;> (simp only [pq_xe, pv_snd, pv_u3] at hx ⊢; simp [hx])
theorem pm_snd {v : pv_V} {M : zMS} {m : pv_Msg} {kd ln sn to rq nm : Int32} (h : PM v M) (hb : v.1.length < 2 ^ 29) (hl : mln m < 4) (hr : mrq m < 4) (hk : mkd m < 2 ^ 29) (e0 : kd = nI (mkd m)) (e1 : ln = nI (mln m)) (e2 : sn = nI (msn m)) (e3 : to = nI (mto m)) (e4 : rq = nI (mrq m)) (e5 : nm = nI (mnm m)) : PM (pv_snd v m) (m_send M kd ln sn to rq nm (mcv m)) := by
  have h0 : M 15 0 = nI v.1.length := h 15 0 (by unfold pq_md; omega)
  have hc : (nI v.1.length).toNatClampNeg = v.1.length := nI_clamp (by omega)
  have hix : (4 * rq + ln).toNatClampNeg = 4 * mrq m + mln m := by
    rw [e4, e1, show (4 : Int32) = nI 4 from rfl, pk_mul, nI_add, nI_clamp (by omega)]
  have hd4 := pq_div (c := mrq m) hl
  have ht : M 4 (4 * mrq m + mln m) = v.2.1 0 (mrq m) (mln m) := by
    rw [h 4 _ (by unfold pq_md; omega)]
    simp only [pq_me, hd4.1, hd4.2]
  have hlen : (pv_snd v m).1.length = v.1.length + 1 := by simp [pv_snd]
  have e9 : (5 ≤ kd) ↔ 5 ≤ mkd m := by rw [e0]; exact nI_leI (a := 5) (by omega) (by omega)
  have hj : (if 5 ≤ kd then v.2.1 0 (mrq m) (mln m) + 1 else 1) = if mkd m ≤ 4 then 1 else v.2.1 0 (mrq m) (mln m) + 1 := by
    by_cases h4 : mkd m ≤ 4
    · rw [if_neg (by rw [e9]; omega), if_pos h4]
    · rw [if_pos (by rw [e9]; omega), if_neg h4]
  intro t' i' hd
  rw [hlen] at hd
  unfold m_send
  rw [hix, ht, hj, h0, hc]
  simp only [u2_at]
  rcases hd with ⟨ht9, h1⟩ | ⟨ht9, h1⟩ | ⟨rfl, rfl⟩ | ⟨ht9, h1⟩
  · have e : (i' / 4 = mrq m ∧ i' % 4 = mln m) ↔ i' = 4 * mrq m + mln m := by omega
    have hx := h t' i' (by unfold pq_md; omega)
    rcases ht9 with rfl | rfl | rfl | rfl | rfl <;> (simp only [pq_me, pv_snd, pv_u3] at hx ⊢; simp [hx, e])
  · have hx := h t' i' (by unfold pq_md; omega)
    rcases ht9 with rfl | rfl | rfl | rfl | rfl | rfl | rfl | rfl | rfl <;> (simp only [pq_me, pv_snd, pv_u3] at hx ⊢; simp [hx])
  · simp [pq_me, hlen, nI_1]
  · have key : ∀ w, pq_at (v.1 ++ [m]) i' w = if i' = v.1.length then pq_part m w else pq_at v.1 i' w := by
      intro w
      unfold pq_at
      rw [pq_get_snoc _ _ h1]
      split <;> rfl
    by_cases e : i' = v.1.length
    · subst e
      rcases ht9 with rfl | rfl | rfl | rfl | rfl | rfl | rfl <;> simp [pq_me, pv_snd, key, pq_part, e0, e1, e2, e3, e4, e5]
    · have hx := h t' i' (by unfold pq_md; omega)
      rcases ht9 with rfl | rfl | rfl | rfl | rfl | rfl | rfl <;> (simp only [pq_me] at hx; simp [pq_me, pv_snd, key, e, hx])
