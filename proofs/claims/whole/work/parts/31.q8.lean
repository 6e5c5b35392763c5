/-! a message is taken, in both pictures -/
def vo_op (v : pv_V) (m : pv_Msg) : pv_V :=
  if mto m = 4 then (if mkd m = 0 then vo_hr v (mln m) (mrq m) else if mkd m = 1 then vo_hw v (mln m) (mrq m) else if mkd m ≤ 4 then vo_hl v (mln m) (mrq m) (mkd m) (mcv m) else vo_hd v (mln m) (mcv m))
  else (if mkd m = 5 then vo_fr v (mto m) (mln m) (mrq m) else if mkd m = 6 then vo_fw v (mto m) (mln m) (mrq m) else if mkd m = 7 then vo_dr v (mto m) (mln m) (mrq m) else if mkd m = 8 then pv_sN v 0 (mto m) (mln m) 0 else if mkd m = 9 then vo_da v (mto m) (mln m) (mnm m) (mcv m) else if mkd m = 10 then vo_so v (mto m) (mln m) (mcv m) else vo_dd v (mto m) (mln m))
theorem vd_fin (v : pv_V) (k c l : Nat) : vo_fin (pv_del v k) c l = pv_del (vo_fin v c l) k := by
  unfold vo_fin
  by_cases e0 : v.2.2 4 c 0 = 0 <;> by_cases e2 : v.2.2 0 c l = 2 <;> simp [e0, e2, pv_del, pv_sN, pv_sI] <;> rfl
theorem vd_ack (v : pv_V) (k c l : Nat) : vo_ack (pv_del v k) c l = pv_del (vo_ack v c l) k := by
  unfold vo_ack
  by_cases e : v.2.2 2 c l = v.2.2 1 c l
  · rw [if_pos e, if_pos (show (pv_del v k).2.2 2 c l = (pv_del v k).2.2 1 c l from e)]
    exact vd_fin (pv_sN v 0 c l 3) k c l
  · rw [if_neg e, if_neg (show ¬ (pv_del v k).2.2 2 c l = (pv_del v k).2.2 1 c l from e)]
theorem vd_dd (v : pv_V) (k c l : Nat) : vo_dd (pv_del v k) c l = pv_del (vo_dd v c l) k := by
  unfold vo_dd
  by_cases e : v.2.2 0 c l = 6 ∨ v.2.2 0 c l = 8
  · rw [if_pos e, if_pos (show (pv_del v k).2.2 0 c l = 6 ∨ (pv_del v k).2.2 0 c l = 8 from e)]
    exact vd_ack (pv_sN v 1 c l (v.2.2 1 c l + 1)) k c l
  · rw [if_neg e, if_neg (show ¬ ((pv_del v k).2.2 0 c l = 6 ∨ (pv_del v k).2.2 0 c l = 8) from e)]
    rfl
theorem vd_da (v : pv_V) (k c l n : Nat) (x : Int32) : vo_da (pv_del v k) c l n x = pv_del (vo_da v c l n x) k := by
  unfold vo_da
  by_cases e : v.2.2 0 c l = 4
  · rw [if_pos e, if_pos (show (pv_del v k).2.2 0 c l = 4 from e)]
    exact vd_fin (pv_sN (pv_sI v 1 c l x) 0 c l 1) k c l
  · rw [if_neg e, if_neg (show ¬ (pv_del v k).2.2 0 c l = 4 from e)]
    exact vd_ack (pv_sN (pv_sN (pv_sI v 1 c l x) 2 c l n) 0 c l (if v.2.2 0 c l = 7 then 8 else 6)) k c l
theorem vd_d1 {v : pv_V} {k l r s c : Nat} (h : k < v.1.length) : vo_d1 (pv_del v k) l r s c = pv_del (vo_d1 v l r s c) k := by
  unfold vo_d1
  split
  · exact (pv_del_snd _ h).symm
  · rfl
theorem vd_len {v : pv_V} {l r s c k : Nat} (h : k < v.1.length) : k < (vo_d1 v l r s c).1.length := by
  unfold vo_d1
  split
  · simp [pv_snd]; omega
  · exact h
theorem vd_op {v : pv_V} {k : Nat} (m : pv_Msg) (h : k < v.1.length) : vo_op (pv_del v k) m = pv_del (vo_op v m) k := by
  have h1 : ∀ n : pv_Msg, k < (pv_snd v n).1.length := fun n => by simp [pv_snd]; omega
  have s1 : ∀ n : pv_Msg, pv_snd (pv_del v k) n = pv_del (pv_snd v n) k := fun n => (pv_del_snd n h).symm
  unfold vo_op
  split
  · split
    · unfold vo_hr
      by_cases e0 : v.2.2 5 0 (mln m) = 0
      · rw [if_pos e0, if_pos (show (pv_del v k).2.2 5 0 (mln m) = 0 from e0)]
        unfold vo_hr0; rw [s1]; rfl
      · rw [if_neg e0, if_neg (show ¬ (pv_del v k).2.2 5 0 (mln m) = 0 from e0)]
        by_cases e1 : v.2.2 5 0 (mln m) = 1
        · rw [if_pos e1, if_pos (show (pv_del v k).2.2 5 0 (mln m) = 1 from e1)]
          unfold vo_hr1; rw [s1]; rfl
        · rw [if_neg e1, if_neg (show ¬ (pv_del v k).2.2 5 0 (mln m) = 1 from e1)]
          unfold vo_hr2; rw [s1]; rfl
    · split
      · unfold vo_hw
        by_cases e0 : v.2.2 5 0 (mln m) = 2
        · rw [if_pos e0, if_pos (show (pv_del v k).2.2 5 0 (mln m) = 2 from e0)]
          unfold vo_hw2; rw [s1]; rfl
        · rw [if_neg e0, if_neg (show ¬ (pv_del v k).2.2 5 0 (mln m) = 2 from e0)]
          unfold vo_hw1 vo_d4
          rw [s1, vd_d1 (h1 _), vd_d1 (vd_len (h1 _)), vd_d1 (vd_len (vd_len (h1 _))), vd_d1 (vd_len (vd_len (vd_len (h1 _))))]
          rfl
      · split
        · unfold vo_hl
          by_cases e0 : v.2.2 5 0 (mln m) = 2 ∧ v.2.2 6 0 (mln m) = mrq m
          · rw [if_pos e0, if_pos (show (pv_del v k).2.2 5 0 (mln m) = 2 ∧ (pv_del v k).2.2 6 0 (mln m) = mrq m from e0)]
            split
            · exact (pv_del_snd (v := pv_sN (pv_sI v 5 0 (mln m) (mcv m)) 5 0 (mln m) 0) _ h).symm
            · exact (pv_del_snd (v := pv_sN v 5 0 (mln m) 0) _ h).symm
          · rw [if_neg e0, if_neg (show ¬ ((pv_del v k).2.2 5 0 (mln m) = 2 ∧ (pv_del v k).2.2 6 0 (mln m) = mrq m) from e0)]
            by_cases e1 : v.2.2 5 0 (mln m) = 1 ∧ pv_clr (v.2.2 7 0 (mln m)) (mrq m) = 0
            · rw [if_pos e1, if_pos (show (pv_del v k).2.2 5 0 (mln m) = 1 ∧ pv_clr ((pv_del v k).2.2 7 0 (mln m)) (mrq m) = 0 from e1)]
              exact (pv_del_snd (v := pv_sN (pv_sN v 7 0 (mln m) (pv_clr (v.2.2 7 0 (mln m)) (mrq m))) 5 0 (mln m) 0) _ h).symm
            · rw [if_neg e1, if_neg (show ¬ ((pv_del v k).2.2 5 0 (mln m) = 1 ∧ pv_clr ((pv_del v k).2.2 7 0 (mln m)) (mrq m) = 0) from e1)]
              exact (pv_del_snd (v := pv_sN v 7 0 (mln m) (pv_clr (v.2.2 7 0 (mln m)) (mrq m))) _ h).symm
        · rfl
  · split
    · unfold vo_fr
      rw [s1]
      show pv_sN (pv_snd (pv_del (pv_snd v _) k) _) 0 _ _ _ = _
      rw [← pv_del_snd _ (h1 _)]
      rfl
    · split
      · unfold vo_fw; rw [s1]; rfl
      · split
        · unfold vo_dr; rw [s1]; rfl
        · split
          · rfl
          · split
            · exact vd_da v k _ _ _ _
            · split
              · exact vd_fin (pv_sN (pv_sI v 1 (mto m) (mln m) (mcv m)) 0 (mto m) (mln m) 2) k _ _
              · exact vd_dd v k _ _
/-- when a message may be taken -/
def vo_ok (v : pv_V) (m : pv_Msg) : Prop := mln m < 4 ∧ mrq m < 4 ∧ mkd m ≤ 11 ∧ mto m ≤ 4 ∧ mnm m ≤ 3 ∧
  (∀ c l, c < 4 → l < 4 → v.2.2 0 c l ≤ 12 ∧ v.2.2 1 c l ≤ 3 ∧ v.2.2 2 c l ≤ 3) ∧ (∀ c, c < 4 → v.2.2 4 c 0 ≤ 2) ∧
  (∀ l, l < 4 → v.2.2 5 0 l ≤ 3 ∧ v.2.2 6 0 l < 4 ∧ v.2.2 7 0 l < 16 ∧ (v.2.2 5 0 l = 0 → v.2.2 7 0 l = 0)) ∧
  (mto m = 4 → (mkd m ≤ 4 ∨ mkd m = 9) ∧ (mkd m ≤ 1 → v.2.2 5 0 (mln m) ≠ 3)) ∧
  (mto m ≠ 4 → 5 ≤ mkd m ∧ (mkd m = 5 ∨ mkd m = 6 → v.2.2 0 (mto m) (mln m) = 2 ∨ v.2.2 0 (mto m) (mln m) = 3 ∨ v.2.2 0 (mto m) (mln m) = 9 ∨ v.2.2 0 (mto m) (mln m) = 10) ∧
    (mkd m = 7 → v.2.2 0 (mto m) (mln m) = 1 ∨ v.2.2 0 (mto m) (mln m) = 7 ∨ v.2.2 0 (mto m) (mln m) = 11) ∧
    (mkd m = 9 → (v.2.2 0 (mto m) (mln m) ≠ 4 → v.2.2 2 (mto m) (mln m) = 0) ∧ (v.2.2 0 (mto m) (mln m) = 4 → v.2.2 4 (mto m) 0 = 0)))
theorem px_opH {v : pv_V} {X : zXS} {M : zMS} {k : Nat} (h : PX v X) (hb : v.1.length < 2 ^ 27) (hk : k < v.1.length) (ok : vo_ok v (pq_get v.1 k)) (h4 : mto (pq_get v.1 k) = 4) : PX (vo_op v (pq_get v.1 k)) (x_H_take X M k) := by
  obtain ⟨a0, a1, a3, a4, a5, a6⟩ := px_m h hk
  have p0 : r_A_part X M (nI k) 0 = nI (mkd (pq_get v.1 k)) := by unfold r_A_part; rw [nI_clamp (by omega)]; exact a0
  have p1 : r_A_part X M (nI k) 1 = nI (mln (pq_get v.1 k)) := by unfold r_A_part; rw [nI_clamp (by omega)]; exact a1
  have p4 : r_A_part X M (nI k) 4 = nI (mrq (pq_get v.1 k)) := by unfold r_A_part; rw [nI_clamp (by omega)]; exact a4
  have p6 : r_A_part X M (nI k) 6 = mcv (pq_get v.1 k) := by unfold r_A_part; rw [nI_clamp (by omega)]; exact a6
  generalize pq_get v.1 k = m at *
  obtain ⟨o1, o2, o3, o4, o5, o6, o7, o8, o9, -⟩ := ok
  obtain ⟨g1, g2⟩ := o9 h4
  obtain ⟨b1, b2, b3, b4⟩ := o8 _ o1
  have il : (nI (mln m)).toNatClampNeg = mln m := nI_clamp (by omega)
  simp only [x_H_take, jS0_H_take_147_1, p0, p1, p4, p6, il]
  unfold vo_op
  rw [if_pos h4]
  rcases (show mkd m = 0 ∨ mkd m = 1 ∨ mkd m = 2 ∨ mkd m = 3 ∨ mkd m = 4 ∨ mkd m = 9 by omega) with e | e | e | e | e | e <;> rw [e]
  · simp [show nI 0 = (0 : Int32) from rfl]
    exact px_hr h (by omega) o1 o2 b1 b2 b3
  · simp [show nI 1 = (1 : Int32) from rfl]
    exact px_hw h (by omega) o1 o2 b1 (g2 (by omega)) b2 b3 b4
  · simp [show nI 2 = (2 : Int32) from rfl]
    exact px_hl h (by omega) o1 o2 b1 b2 b3 (by omega) (by rw [p0, e]) p6
  · simp [show nI 3 = (3 : Int32) from rfl]
    exact px_hl h (by omega) o1 o2 b1 b2 b3 (by omega) (by rw [p0, e]) p6
  · simp [show nI 4 = (4 : Int32) from rfl]
    exact px_hl h (by omega) o1 o2 b1 b2 b3 (by omega) (by rw [p0, e]) p6
  · simp [show nI 9 = (9 : Int32) from rfl]
    exact px_hd h o1 b3
theorem px_opC {v : pv_V} {X : zXS} {M : zMS} {k : Nat} (h : PX v X) (hb : v.1.length < 2 ^ 27) (hk : k < v.1.length) (ok : vo_ok v (pq_get v.1 k)) (h4 : mto (pq_get v.1 k) ≠ 4) : PX (vo_op v (pq_get v.1 k)) (x_C_take X M (mto (pq_get v.1 k)) k) := by
  obtain ⟨a0, a1, a3, a4, a5, a6⟩ := px_m h hk
  have p0 : r_A_part X M (nI k) 0 = nI (mkd (pq_get v.1 k)) := by unfold r_A_part; rw [nI_clamp (by omega)]; exact a0
  have p1 : r_A_part X M (nI k) 1 = nI (mln (pq_get v.1 k)) := by unfold r_A_part; rw [nI_clamp (by omega)]; exact a1
  have p4 : r_A_part X M (nI k) 4 = nI (mrq (pq_get v.1 k)) := by unfold r_A_part; rw [nI_clamp (by omega)]; exact a4
  have p5 : r_A_part X M (nI k) 5 = nI (mnm (pq_get v.1 k)) := by unfold r_A_part; rw [nI_clamp (by omega)]; exact a5
  have p6 : r_A_part X M (nI k) 6 = mcv (pq_get v.1 k) := by unfold r_A_part; rw [nI_clamp (by omega)]; exact a6
  generalize pq_get v.1 k = m at *
  obtain ⟨o1, o2, o3, o4, o5, o6, o7, o8, -, o9⟩ := ok
  obtain ⟨g1, g2, g3, g4⟩ := o9 h4
  have hc : mto m < 4 := by omega
  obtain ⟨b1, b2, b3⟩ := o6 _ _ hc o1
  have b4 := o7 _ hc
  have il : (nI (mln m)).toNatClampNeg = mln m := nI_clamp (by omega)
  simp only [x_C_take, p0, p1, p4, p5, p6, il]
  unfold vo_op
  rw [if_neg h4]
  rcases (show mkd m = 5 ∨ mkd m = 6 ∨ mkd m = 7 ∨ mkd m = 8 ∨ mkd m = 9 ∨ mkd m = 10 ∨ mkd m = 11 by omega) with e | e | e | e | e | e | e <;> rw [e]
  · simp [show nI 5 = (5 : Int32) from rfl]
    exact px_fr h (by omega) hc o1 o2 (g2 (Or.inl e))
  · simp [show nI 6 = (6 : Int32) from rfl]
    exact px_fw h (by omega) hc o1 o2 (g2 (Or.inr e))
  · simp [show nI 7 = (7 : Int32) from rfl]
    exact px_dr h (by omega) hc o1 o2 b1
  · simp [show nI 8 = (8 : Int32) from rfl]
    exact px_st (x := 0) h
  · simp [show nI 9 = (9 : Int32) from rfl]
    exact px_da h hc o1 b4 b1 (g4 e).1 (by omega) (by omega)
  · simp [show nI 10 = (10 : Int32) from rfl]
    exact px_so h hc o1 b4
  · simp [show nI 11 = (11 : Int32) from rfl]
    exact px_dd h hc o1 b4 b1 (by omega) (by omega)
