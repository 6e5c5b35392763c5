/-! the invariant is kept: frame -/
def INV (v : pv_V) : Prop := pv_Inv v ∧ ∀ c l, c < 4 → l < 4 → v.2.2 1 c l ≤ 3 ∧ v.2.2 2 c l ≤ 3
theorem vo_fin_N (v : pv_V) (c l t c' l' : Nat) : (vo_fin v c l).2.2 t c' l' = if t = 3 ∧ c' = c ∧ l' = 0 then 0 else if t = 0 ∧ c' = c ∧ l' = l ∧ v.2.2 4 c 0 ≠ 0 ∧ v.2.2 0 c l = 2 then 3 else v.2.2 t c' l' := by
  unfold vo_fin
  by_cases e0 : v.2.2 4 c 0 = 0
  · simp [e0, pv_sN, pv_sI, pv_u3]
  · by_cases e2 : v.2.2 0 c l = 2 <;> simp [e0, e2, pv_sN, pv_sI, pv_u3]
theorem pv_cn_line {j b d a : Nat} : ∀ {N : List pv_Msg}, (∀ n ∈ N, mln n = a) → b ≠ a → pv_cn j b d N = 0
  | [], _, _ => rfl
  | x :: N, h, hb => by
    rw [pv_cn_cons, pv_b1_line (h x List.mem_cons_self) hb, pv_cn_line (fun n hn => h n (List.mem_cons_of_mem _ hn)) hb]
theorem pv_CO_same {v w : pv_V} {c : Nat} (h : pv_CO v c) (e : ∀ t l, (t = 0 ∨ t = 3 ∨ t = 4) → w.2.2 t c l = v.2.2 t c l) : pv_CO w c := by
  obtain ⟨q1, q2, q3, q4, q5⟩ := h
  have e0 := fun l => e 0 l (Or.inl rfl)
  have e3 := fun l => e 3 l (Or.inr (Or.inl rfl))
  have e4 := fun l => e 4 l (Or.inr (Or.inr rfl))
  refine ⟨by rw [e3]; exact q1, by rw [e4]; exact q2, fun l hl => ?_, fun l l' hl hl' => ?_, fun l hl => ?_⟩
  · rw [e0, e3]; exact q3 l hl
  · rw [e0, e0]; exact q4 l l' hl hl'
  · rw [e0, e4]; exact q5 l hl
theorem pv_stp {v w : pv_V} {k : Nat} {m : pv_Msg} {N : List pv_Msg} (h : pv_Inv v) (hm : v.1[k]? = some m) (h1 : w.1 = v.1.eraseIdx k ++ N) (hN : ∀ n ∈ N, pv_wf n ∧ mln n = mln m) (hp : N.Pairwise pv_rl) (hx : ∀ n ∈ N, 5 ≤ mkd n → mkd n ≤ 7 → pv_cn 3 (mln n) (mto n) v.1 = 0) (hT : ∀ t c l, l ≠ mln m → t ≠ 3 → t ≠ 4 → w.2.2 t c l = v.2.2 t c l) (hco : ∀ c, c < 4 → pv_CO w c) (hli : pv_LI (mln m) v → (∀ j d, pv_cn j (mln m) d w.1 + pv_bk j d (mkd m) (mto m) (mrq m) (mnm m) = pv_cn j (mln m) d v.1 + pv_cn j (mln m) d N) → (∀ d, pv_cn 13 (mln m) d w.1 ≤ 3 * pv_cn 10 (mln m) d w.1) → pv_LI (mln m) w) : pv_Inv w := by
  have hwf : ∀ n ∈ w.1, pv_wf n := by rw [h1]; exact pv_wf_step h.1 (fun n hn => (hN n hn).1)
  have hml : mln m < 4 := (h.1 m (List.mem_of_getElem? hm)).1
  have hs := pv_cn_step (N := N) hm
  have b0 : ∀ j d, pv_b1 j (mln m) d m = pv_bk j d (mkd m) (mto m) (mrq m) (mnm m) := fun j d => by simp [pv_b1]
  refine pv_Inv_mk (a := mln m) h hwf (by rw [h1]; exact pv_rl_step h.2.1 hp hx) (hli (h.2.2.1 _ hml) (fun j d => by rw [h1, ← b0]; exact hs j _ d) (fun d => pv_cn_13 hwf)) hT (fun b hb j d => ?_) hco
  have h2 := hs j b d
  rw [h1]
  rw [pv_b1_line rfl hb, pv_cn_line (fun n hn => (hN n hn).2) hb] at h2
  omega
theorem pv_stp0 {v w : pv_V} {a : Nat} {N : List pv_Msg} (h : pv_Inv v) (ha : a < 4) (h1 : w.1 = v.1 ++ N) (hN : ∀ n ∈ N, pv_wf n ∧ mln n = a ∧ mkd n ≤ 4) (hT : ∀ t c l, l ≠ a → t ≠ 3 → t ≠ 4 → w.2.2 t c l = v.2.2 t c l) (hco : ∀ c, c < 4 → pv_CO w c) (hli : pv_LI a v → (∀ j d, pv_cn j a d w.1 = pv_cn j a d v.1 + pv_cn j a d N) → (∀ d, pv_cn 13 a d w.1 ≤ 3 * pv_cn 10 a d w.1) → pv_LI a w) : pv_Inv w := by
  have hwf : ∀ n ∈ w.1, pv_wf n := by
    rw [h1]
    intro n hn
    rcases List.mem_append.mp hn with z | z
    · exact h.1 n z
    · exact (hN n z).1
  refine pv_Inv_mk (a := a) h hwf ?_ (hli (h.2.2.1 _ ha) (fun j d => by rw [h1, pv_cn_app]) (fun d => pv_cn_13 hwf)) hT (fun b hb j d => ?_) hco
  · rw [h1]
    refine List.pairwise_append.mpr ⟨h.2.1, pv_rl_free (fun n hn e => by have := (hN n hn).2.2; omega), fun x hx y hy => ?_⟩
    rintro ⟨e1, e2, e3, e4, e5⟩
    have := (hN y hy).2.2
    omega
  · rw [h1, pv_cn_app, pv_cn_line (fun n hn => (hN n hn).2.1) hb]; rfl
theorem pv_del_app {L N : List pv_Msg} {k : Nat} (h : k < L.length) : (L ++ N).eraseIdx k = L.eraseIdx k ++ N := List.eraseIdx_append_of_lt_length h N
theorem pv_lt {L : List pv_Msg} {k : Nat} {m : pv_Msg} (h : L[k]? = some m) : k < L.length := (List.getElem?_eq_some_iff.mp h).1
theorem pv_has {v : pv_V} {k : Nat} {m : pv_Msg} (h : v.1[k]? = some m) (j d : Nat) : pv_bk j d (mkd m) (mto m) (mrq m) (mnm m) ≤ pv_cn j (mln m) d v.1 := by
  have := pv_cn_in (j := j) (a := mln m) (d := d) (List.mem_of_getElem? h)
  simpa [pv_b1] using this
/-- no LEFT waits for the owner, nor for a sharer -/
theorem pv_no_left {a : Nat} {v : pv_V} (h : pv_LI a v) {c : Nat} (hc : c < 4) (ho : 1 ≤ pv_oc (v.2.2 5 0 a) (v.2.2 6 0 a) c + pv_sb (v.2.2 7 0 a) c) : pv_cn 3 a c v.1 = 0 := by
  have h1 := h.1 c hc
  have h12 : v.2.2 0 c a ≤ 12 := pv_lc_le h1
  simp only at h1
  generalize v.2.2 0 c a = st at *
  generalize pv_oc (v.2.2 5 0 a) (v.2.2 6 0 a) c = o at *
  generalize pv_sb (v.2.2 7 0 a) c = s at *
  rcases (show st = 0 ∨ st = 1 ∨ st = 2 ∨ st = 3 ∨ st = 4 ∨ st = 5 ∨ st = 6 ∨ st = 7 ∨ st = 8 ∨ st = 9 ∨ st = 10 ∨ st = 11 ∨ st = 12 by omega) with rfl | rfl | rfl | rfl | rfl | rfl | rfl | rfl | rfl | rfl | rfl | rfl | rfl <;> simp only [pv_lc] at h1 <;> omega
/-- what may be taken -/
theorem vo_fate_2 {v : pv_V} {k : Nat} (h : vo_fate v k = 2) : vo_kept v.1 k = false ∧ vo_stl v (pq_get v.1 k) = false := by
  unfold vo_fate at h
  constructor
  · cases e : vo_kept v.1 k
    · rfl
    · rw [if_pos e] at h; exact absurd h (by decide)
  · cases e : vo_kept v.1 k
    · rw [if_neg (by rw [e]; decide)] at h
      cases e2 : vo_stl v (pq_get v.1 k)
      · rfl
      · rw [if_pos e2] at h; exact absurd h (by decide)
    · rw [if_pos e] at h; exact absurd h (by decide)
theorem INV_home {v : pv_V} (h : INV v) {l : Nat} (hl : l < 4) : v.2.2 5 0 l ≤ 3 ∧ v.2.2 6 0 l < 4 ∧ v.2.2 7 0 l < 16 ∧ (v.2.2 5 0 l = 0 → v.2.2 7 0 l = 0) := by
  obtain ⟨hL, hX, hF, hkp, how, hsh, hz, h13⟩ := h.1.2.2.1 l hl
  exact ⟨hkp, how, hsh, fun e => hz (Or.inl e)⟩
theorem INV_st {v : pv_V} (h : INV v) {c l : Nat} (hc : c < 4) (hl : l < 4) : v.2.2 0 c l ≤ 12 := pv_lc_le ((h.1.2.2.1 l hl).1 c hc)
theorem vo_sm_of {v : pv_V} (h : INV v) : vo_sm v := by
  intro k hk
  obtain ⟨w1, w2, w3, w4⟩ := h.1.1 _ (List.mem_of_getElem? (pq_get_some hk))
  refine ⟨?_, w1, ?_, w2⟩ <;> omega
theorem vo_ok_of {v : pv_V} {k : Nat} (h : INV v) (hk : k < v.1.length) (hf : vo_fate v k = 2) : vo_ok v (pq_get v.1 k) := by
  have hm := pq_get_some hk
  obtain ⟨-, hs⟩ := vo_fate_2 hf
  generalize pq_get v.1 k = m at *
  obtain ⟨w1, w2, w3, w4⟩ := h.1.1 _ (List.mem_of_getElem? hm)
  have L := h.1.2.2.1 _ w1
  refine ⟨w1, w2, by omega, by omega, w3, fun c l hc hl => ⟨INV_st h hc hl, h.2 c l hc hl⟩, fun c hc => (h.1.2.2.2 c hc).2.1, fun l hl => INV_home h hl, fun h4 => ⟨by omega, fun h1 e3 => ?_⟩, fun h4 => ?_⟩
  · unfold vo_stl at hs
    rw [if_pos h4] at hs
    have := of_decide_eq_false hs
    exact this ⟨by omega, e3⟩
  · have hc : mto m < 4 := by omega
    have Lc := L.1 _ hc
    unfold vo_stl at hs
    rw [if_neg h4] at hs
    refine ⟨by omega, fun e => ?_, fun e => ?_, fun e => ?_⟩
    · rw [if_pos e] at hs
      have ns := of_decide_eq_false hs
      refine pv_lc_fq Lc ?_ ns
      show 1 ≤ pv_cn 4 (mln m) (mto m) v.1 + pv_cn 5 (mln m) (mto m) v.1
      have a4 := pv_has hm 4 (mto m)
      have a5 := pv_has hm 5 (mto m)
      rcases e with e | e <;> rw [e] at a4 a5 <;> simp [pv_bk] at a4 a5 <;> omega
    · rw [if_neg (by omega), if_pos e] at hs
      have ns := of_decide_eq_false hs
      refine pv_lc_dq Lc ?_ ns
      show 1 ≤ pv_cn 8 (mln m) (mto m) v.1
      have a4 := pv_has hm 8 (mto m)
      rw [e] at a4; simp [pv_bk] at a4; omega
    · have a4 := pv_has hm 10 (mto m)
      rw [e] at a4; simp [pv_bk] at a4
      have h3 := pv_lc_da Lc (show 1 ≤ pv_cn 10 (mln m) (mto m) v.1 by omega)
      refine ⟨fun n4 => ?_, fun e4 => (h.1.2.2.2 _ hc).2.2.2.2 _ w1 e4⟩
      have h5 : v.2.2 0 (mto m) (mln m) = 5 ∨ v.2.2 0 (mto m) (mln m) = 7 := by
        rcases h3 with z | z | z
        · exact absurd z n4
        · exact Or.inl z
        · exact Or.inr z
      simp only at Lc
      rcases h5 with z | z <;> rw [z] at Lc <;> simp only [pv_lc] at Lc <;> omega
