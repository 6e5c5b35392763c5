/-! every call answers alike, and keeps the two pictures of one value -/
def GX (X : zXS) : Prop := ∃ v, INV v ∧ PX v X
def GM (M : zMS) : Prop := ∃ v, INV v ∧ PM v M
def RR (X : zXS) (M : zMS) : Prop := ∃ v, INV v ∧ PX v X ∧ PM v M
theorem INV_len {v : pv_V} (h : INV v) : v.1.length ≤ 28 := pv_Inv_len h.1
theorem gx_fate {v : pv_V} {X : zXS} {M : zMS} {k : Nat} (h : INV v) (hX : PX v X) (hk : k < v.1.length) : r_S_fateOf X M k = vo_fate v k :=
  px_fate hX (vo_sm_of h) (by have := INV_len h; omega) hk (fun c l hc hl => INV_st h hc hl) (fun l hl => (INV_home h hl).1)
theorem gm_fate {v : pv_V} {X : zXS} {M : zMS} {k : Nat} (h : INV v) (hM : PM v M) (hk : k < v.1.length) : r_M_move X M k = vo_fate v k :=
  pm_fate hM (vo_sm_of h) (by have := INV_len h; omega) hk (fun c l hc hl => INV_st h hc hl) (fun l hl => (INV_home h hl).1)
theorem gx_msg {v : pv_V} {X : zXS} (M : zMS) (h : INV v) (hX : PX v X) : zMsgX X M v.1.length := by
  intro k hk
  obtain ⟨s0, s1, s2, s3⟩ := vo_sm_of h k hk
  obtain ⟨a0, a1, a3, a4, a5, a6⟩ := px_m hX hk
  have := INV_len h
  have ik : (nI k).toNatClampNeg = k := nI_clamp (by omega)
  unfold r_A_part
  rw [ik]
  refine ⟨?_, ?_, ?_⟩
  · show vp_in (X 0 1 k) 4; rw [a1]; exact vp_in_nI s1 (by omega)
  · show vp_in (X 0 3 k) 5; rw [a3]; exact vp_in_nI (by omega) (by omega)
  · show vp_in (X 0 4 k) 4; rw [a4]; exact vp_in_nI s3 (by omega)
theorem gm_msg {v : pv_V} {M : zMS} (h : INV v) (hM : PM v M) : zMsg M v.1.length := by
  intro k hk
  obtain ⟨s0, s1, s2, s3⟩ := vo_sm_of h k hk
  obtain ⟨a0, a1, a3, a4, a5, a6⟩ := pm_m hM hk
  have := INV_len h
  have ik : (nI k).toNatClampNeg = k := nI_clamp (by omega)
  rw [ik, a1, a3, a4]
  exact ⟨vp_in_nI s1 (by omega), vp_in_nI (by omega) (by omega), vp_in_nI s3 (by omega)⟩
theorem GX_run (M : zMS) : ∀ X1, GX X1 → ∃ n1, X1 2 0 0 = nI n1 ∧ n1 + 6 ≤ 64 ∧ zMsgX X1 M n1 ∧ ∀ kk, kk < n1 → r_S_fateOf X1 M kk = 2 → GX (x_S_handOver X1 M kk) := by
  rintro X ⟨v, h, hX⟩
  have hn := INV_len h
  refine ⟨v.1.length, px_n hX, by omega, gx_msg M h hX, fun k hk hf => ?_⟩
  rw [gx_fate h hX hk] at hf
  exact ⟨_, inv_op h hk hf, px_hand hX (by omega) hk (vo_ok_of h hk hf)⟩
theorem GM_run (X : zXS) : ∀ M1, GM M1 → ∃ n1, M1 15 0 = nI n1 ∧ n1 + 8 < 200 ∧ zMsg M1 n1 ∧ ∀ kk, kk < n1 → r_M_move X M1 kk = 2 → GM (m_M_move X M1 kk) := by
  rintro M ⟨v, h, hM⟩
  have hn := INV_len h
  refine ⟨v.1.length, pm_n hM, by omega, gm_msg h hM, fun k hk hf => ?_⟩
  have hf2 := hf
  rw [gm_fate h hM hk] at hf2
  exact ⟨_, inv_op h hk hf2, pm_move hM (by omega) hk (vo_ok_of h hk hf2) hf⟩
theorem RR.X {X : zXS} {M : zMS} (h : RR X M) : GX X := let ⟨v, a, b, _⟩ := h; ⟨v, a, b⟩
theorem RR.M {X : zXS} {M : zMS} (h : RR X M) : GM M := let ⟨v, a, _, b⟩ := h; ⟨v, a, b⟩
theorem GX.n {X : zXS} (M : zMS) (h : GX X) : ∃ n, X 2 0 0 = nI n ∧ n + 6 ≤ 64 ∧ zMsgX X M n := let ⟨n, a, b, c, _⟩ := GX_run M X h; ⟨n, a, b, c⟩
theorem GM.n {M : zMS} (h : GM M) : ∃ n, M 15 0 = nI n ∧ n + 8 < 200 ∧ zMsg M n := let ⟨n, a, b, c, _⟩ := GM_run (fun _ _ _ => 0) M h; ⟨n, a, b, c⟩
/-! numbers of cores and lines -/
theorem core_is : ∀ c, c < 4 → ¬ (if nI c < 0 then (0 : Int32) else (if 4 ≤ nI c then 0 else 1)) = 0 := by decide
theorem i4 (x : Int32) : (∃ c, c < 4 ∧ x = nI c ∧ ¬ m_four x = 0 ∧ ∀ X M, ¬ r_S_isCore X M x = 0) ∨ (m_four x = 0 ∧ ∀ X M, r_S_isCore X M x = 0) := by
  by_cases h : m_four x = 0
  · refine Or.inr ⟨h, fun X M => ?_⟩
    by_cases z : r_S_isCore X M x = 0
    · exact z
    · obtain ⟨j, hj, rfl⟩ := vp_in_of (core_in z) (by omega)
      exact absurd h (m4_in j hj)
  · obtain ⟨j, hj, e⟩ := vp_in_of (four_in h) (by omega)
    exact Or.inl ⟨j, hj, e, h, fun X M => by rw [e]; exact core_is j hj⟩
theorem i44 (x y : Int32) : (∃ c l, c < 4 ∧ l < 4 ∧ x = nI c ∧ y = nI l ∧ ∀ X M, ¬ r_S_isCopy X M x y = 0) ∨ ((m_four x = 0 ∨ (¬ m_four x = 0 ∧ m_four y = 0)) ∧ ∀ X M, r_S_isCopy X M x y = 0) := by
  rcases i4 x with ⟨c, hc, ex, fx, ax⟩ | ⟨fx, ax⟩
  · rcases i4 y with ⟨l, hl, ey, fy, ay⟩ | ⟨fy, ay⟩
    · refine Or.inl ⟨c, l, hc, hl, ex, ey, fun X M => ?_⟩
      unfold r_S_isCopy
      rw [if_neg (ax X M), if_neg (show ¬ r_S_isLine X M y = 0 from ay X M)]
      decide
    · refine Or.inr ⟨Or.inr ⟨fx, fy⟩, fun X M => ?_⟩
      unfold r_S_isCopy
      rw [if_neg (ax X M), if_pos (show r_S_isLine X M y = 0 from ay X M)]
  · refine Or.inr ⟨Or.inl fx, fun X M => ?_⟩
    unfold r_S_isCopy
    rw [if_pos (ax X M)]
section RQ
variable {X X0 : zXS} {M M0 : zMS}
theorem rr_start (h : RR X M) (co a : Int32) (w : Nat) (x : Int32) (hw : w ≤ 2) : (if (r_S_isCopy X M0 co a) = 0 then (-1) else (r_C_start X M0 (Int32.toNatClampNeg co) (nI w) a x)) = r_M_start X0 M co a (nI w) x ∧ RR (if (r_S_isCopy X M0 co a) = 0 then X else (x_C_start X M0 (Int32.toNatClampNeg co) (nI w) a x)) (m_M_start X0 M co a (nI w) x) := by
  obtain ⟨v, hI, hX, hM⟩ := h
  have hn := INV_len hI
  rcases i44 co a with ⟨c, l, hc, hl, rfl, rfl, hq⟩ | ⟨hq1, hq⟩
  · rw [if_neg (hq X M0), if_neg (hq X M0), nI_clamp (by omega)]
    have hs := INV_st hI hc hl
    have hwt := (hI.1.2.2.2 c hc).1
    obtain ⟨p1, p2⟩ := px_start (M := M0) (x := x) hX (by omega) hc hl hw hs hwt
    obtain ⟨q1, q2⟩ := pm_start (X := X0) (x := x) hM (by omega) hc hl hw hs hwt
    exact ⟨by rw [p2, q2], _, inv_start hI hc hl hw, p1, q1⟩
  · rw [if_pos (hq X M0), if_pos (hq X M0)]
    unfold r_M_start m_M_start
    rcases hq1 with z | ⟨y, z⟩
    · rw [if_pos z, if_pos z]; exact ⟨rfl, v, hI, hX, hM⟩
    · rw [if_neg y, if_pos z, if_neg y, if_pos z]; exact ⟨rfl, v, hI, hX, hM⟩
theorem rr_load (h : RR X M) (co a : Int32) : r_S_load X M0 co a = r_M_load X0 M co a ∧ RR (x_S_load X M0 co a) (m_M_load X0 M co a) := rr_start h co a 0 0 (by omega)
theorem rr_store (h : RR X M) (co a x : Int32) : r_S_store X M0 co a x = r_M_store X0 M co a x ∧ RR (x_S_store X M0 co a x) (m_M_store X0 M co a x) := rr_start h co a 1 x (by omega)
theorem rr_add (h : RR X M) (co a x : Int32) : r_S_add X M0 co a x = r_M_add X0 M co a x ∧ RR (x_S_add X M0 co a x) (m_M_add X0 M co a x) := rr_start h co a 2 x (by omega)
theorem rr_leave (h : RR X M) (co a : Int32) : r_S_leave X M0 co a = r_M_leave X0 M co a ∧ RR (x_S_leave X M0 co a) (m_M_leave X0 M co a) := by
  obtain ⟨v, hI, hX, hM⟩ := h
  have hn := INV_len hI
  unfold r_S_leave x_S_leave
  rcases i44 co a with ⟨c, l, hc, hl, rfl, rfl, hq⟩ | ⟨hq1, hq⟩
  · rw [if_neg (hq X M0), if_neg (hq X M0), nI_clamp (by omega)]
    have hs := INV_st hI hc hl
    obtain ⟨p1, p2⟩ := px_leave (M := M0) hX (by omega) hc hl hs
    obtain ⟨q1, q2⟩ := pm_leave (X := X0) hM (by omega) hc hl hs
    exact ⟨by rw [p2, q2], _, inv_leave hI hc hl, p1, q1⟩
  · rw [if_pos (hq X M0), if_pos (hq X M0)]
    unfold r_M_leave m_M_leave
    rcases hq1 with z | ⟨y, z⟩
    · rw [if_pos z, if_pos z]; exact ⟨rfl, v, hI, hX, hM⟩
    · rw [if_neg y, if_pos z, if_neg y, if_pos z]; exact ⟨rfl, v, hI, hX, hM⟩
theorem rr_state (h : RR X M) (co a : Int32) : r_S_state X M0 co a = r_M_state X0 M co a := by
  obtain ⟨v, hI, hX, hM⟩ := h
  unfold r_S_state r_M_state
  rcases i44 co a with ⟨c, l, hc, hl, rfl, rfl, hq⟩ | ⟨hq1, hq⟩
  · rw [if_neg (hq X M0), if_neg (m4_in c hc), if_neg (m4_in l hl), pm_at4 hc hl, nI_clamp (by omega), nI_clamp (by omega), (px_v3 hX hc hl).1, (pm_v0 hM hc hl).1]
  · rw [if_pos (hq X M0)]
    rcases hq1 with z | ⟨y, z⟩
    · rw [if_pos z]
    · rw [if_neg y, if_pos z]
theorem rr_value (h : RR X M) (co a : Int32) : r_S_value X M0 co a = r_M_value X0 M co a := by
  obtain ⟨v, hI, hX, hM⟩ := h
  unfold r_S_value r_M_value r_C_shownValue
  rcases i44 co a with ⟨c, l, hc, hl, rfl, rfl, hq⟩ | ⟨hq1, hq⟩
  · rw [if_neg (hq X M0), if_neg (m4_in c hc), if_neg (m4_in l hl), pm_at4 hc hl, nI_clamp (by omega), nI_clamp (by omega), (px_v3 hX hc hl).1, (px_v3 hX hc hl).2, (pm_v0 hM hc hl).1, (pm_v0 hM hc hl).2.1]
  · rw [if_pos (hq X M0)]
    rcases hq1 with z | ⟨y, z⟩
    · rw [if_pos z]
    · rw [if_neg y, if_pos z]
theorem rr_due (h : RR X M) (co a : Int32) : r_S_due X M0 co a = r_M_due X0 M co a := by
  obtain ⟨v, hI, hX, hM⟩ := h
  unfold r_S_due r_M_due r_C_shownOwed
  rcases i44 co a with ⟨c, l, hc, hl, rfl, rfl, hq⟩ | ⟨hq1, hq⟩
  · have h5 : X 5 c l = nI (v.2.2 2 c l) - nI (v.2.2 1 c l) := hX 5 c l (by unfold pq_xd; omega)
    rw [if_neg (hq X M0), if_neg (m4_in c hc), if_neg (m4_in l hl), pm_at4 hc hl, nI_clamp (by omega), nI_clamp (by omega), (px_v3 hX hc hl).1, h5, (pm_v0 hM hc hl).1, (pm_v0 hM hc hl).2.2.1, (pm_v0 hM hc hl).2.2.2]
    have hs := INV_st hI hc hl
    have Lc := (hI.1.2.2.1 l hl).1 c hc
    simp only at Lc
    have z0 : ∀ g : Nat, nI 0 - nI g = - nI g := fun g => by rw [show nI 0 = (0 : Int32) from rfl, Int32.zero_sub]
    rcases (show v.2.2 0 c l = 0 ∨ v.2.2 0 c l = 1 ∨ v.2.2 0 c l = 2 ∨ v.2.2 0 c l = 3 ∨ v.2.2 0 c l = 4 ∨ v.2.2 0 c l = 5 ∨ v.2.2 0 c l = 6 ∨ v.2.2 0 c l = 7 ∨ v.2.2 0 c l = 8 ∨ v.2.2 0 c l = 9 ∨ v.2.2 0 c l = 10 ∨ v.2.2 0 c l = 11 ∨ v.2.2 0 c l = 12 by omega) with e | e | e | e | e | e | e | e | e | e | e | e | e <;> rw [e] at Lc ⊢
    · rfl
    · rfl
    · rfl
    · rfl
    · rfl
    · have : v.2.2 2 c l = 0 := by simp only [pv_lc] at Lc; omega
      rw [this, z0]; rfl
    · rfl
    · have : v.2.2 2 c l = 0 := by simp only [pv_lc] at Lc; omega
      rw [this, z0]; rfl
    · rfl
    · rfl
    · rfl
    · rfl
    · rfl
  · rw [if_pos (hq X M0)]
    rcases hq1 with z | ⟨y, z⟩
    · rw [if_pos z]
    · rw [if_neg y, if_pos z]
theorem rr_home (h : RR X M) (a : Int32) : r_S_home X M0 a = r_M_home X0 M a := by
  obtain ⟨v, hI, hX, hM⟩ := h
  unfold r_S_home r_M_home r_H_summary jS0_H_summary_22_1 jS0_M_home_31_1
  rcases i4 a with ⟨l, hl, rfl, fx, ax⟩ | ⟨fx, ax⟩
  · rw [if_neg (show ¬ r_S_isLine X M0 (nI l) = 0 from ax X M0), if_neg fx, nI_clamp (by omega)]
    obtain ⟨a1, a2, a3, a4⟩ := px_h hX hl
    obtain ⟨b1, b2, b3, b4⟩ := pm_h hM hl
    rw [a2, a3, a4, b2, b3, b4]
  · rw [if_pos (show r_S_isLine X M0 a = 0 from ax X M0), if_pos fx]
theorem rr_memory (h : RR X M) (a : Int32) : r_S_memory X M0 a = r_M_memory X0 M a := by
  obtain ⟨v, hI, hX, hM⟩ := h
  unfold r_S_memory r_M_memory
  rcases i4 a with ⟨l, hl, rfl, fx, ax⟩ | ⟨fx, ax⟩
  · rw [if_neg (show ¬ r_S_isLine X M0 (nI l) = 0 from ax X M0), if_neg fx, nI_clamp (by omega), (px_h hX hl).1, (pm_h hM hl).1]
  · rw [if_pos (show r_S_isLine X M0 a = 0 from ax X M0), if_pos fx]
theorem rr_waits (h : RR X M) (a : Int32) : r_S_waits X M0 a = r_M_waits X0 M a := by
  obtain ⟨v, hI, hX, hM⟩ := h
  unfold r_S_waits r_M_waits
  rcases i4 a with ⟨l, hl, rfl, fx, ax⟩ | ⟨fx, ax⟩
  · rw [if_neg (ax X M0), if_neg fx, nI_clamp (by omega), show X 6 l 0 = nI (v.2.2 3 l 0) from hX 6 l 0 (by unfold pq_xd; omega), show M 5 l = nI (v.2.2 3 l 0) from hM 5 l (by unfold pq_md; omega)]
  · rw [if_pos (ax X M0), if_pos fx]
theorem rr_done (h : RR X M) (a : Int32) : r_S_done X M0 a = r_M_done X0 M a := by
  obtain ⟨v, hI, hX, hM⟩ := h
  unfold r_S_done r_M_done
  rcases i4 a with ⟨l, hl, rfl, fx, ax⟩ | ⟨fx, ax⟩
  · rw [if_neg (ax X M0), if_neg fx, nI_clamp (by omega), show X 9 l 0 = v.2.1 3 l 0 from hX 9 l 0 (by unfold pq_xd; omega), show M 9 l = v.2.1 3 l 0 from hM 9 l (by unfold pq_md; omega)]
  · rw [if_pos (ax X M0), if_pos fx]
theorem rr_result (h : RR X M) (a : Int32) : r_S_result X M0 a = r_M_result X0 M a := by
  obtain ⟨v, hI, hX, hM⟩ := h
  unfold r_S_result r_M_result
  rcases i4 a with ⟨l, hl, rfl, fx, ax⟩ | ⟨fx, ax⟩
  · rw [if_neg (ax X M0), if_neg fx, nI_clamp (by omega), show X 10 l 0 = v.2.1 4 l 0 from hX 10 l 0 (by unfold pq_xd; omega), show M 10 l = v.2.1 4 l 0 from hM 10 l (by unfold pq_md; omega)]
  · rw [if_pos (ax X M0), if_pos fx]
theorem rr_tally (h : RR X M) (co a : Int32) : r_S_tally X M0 co a = r_M_tally X0 M co a := by
  obtain ⟨v, hI, hX, hM⟩ := h
  unfold r_S_tally r_M_tally
  rcases i44 co a with ⟨c, l, hc, hl, rfl, rfl, hq⟩ | ⟨hq1, hq⟩
  · have h4 : M 4 (4 * c + l) = v.2.1 0 c l := by
      have hd := pq_div (c := c) hl
      rw [hM 4 _ (by unfold pq_md; omega)]; simp only [pq_me, hd.1, hd.2]
    rw [if_neg (hq X M0), if_neg (m4_in c hc), if_neg (m4_in l hl), pm_at4 hc hl, nI_clamp (by omega), nI_clamp (by omega), h4, show X 1 c l = v.2.1 0 c l from hX 1 c l (by unfold pq_xd; omega)]
  · rw [if_pos (hq X M0)]
    rcases hq1 with z | ⟨y, z⟩
    · rw [if_pos z]
    · rw [if_neg y, if_pos z]
/-- a number of a waiting message -/
theorem has_is {v : pv_V} (hX : PX v X) (hM : PM v M) (hn : v.1.length ≤ 28) (x : Int32) : (∃ k, k < v.1.length ∧ x = nI k ∧ ¬ x < 0 ∧ x < M 15 0 ∧ ¬ r_A_has X M0 x = 0) ∨ (r_A_has X M0 x = 0 ∧ (x < 0 ∨ (¬ x < 0 ∧ ¬ x < M 15 0))) := by
  have a := px_n hX
  have b := pm_n hM
  by_cases h : r_A_has X M0 x = 0
  · refine Or.inr ⟨h, ?_⟩
    unfold r_A_has at h
    split at h
    · next z => exact Or.inl z
    · next z =>
      split at h
      · next y => refine Or.inr ⟨z, ?_⟩; rw [b, ← a]; exact Int32.not_lt.mpr y
      · exact absurd h (by decide)
  · obtain ⟨h1, h2⟩ := has_in h
    refine Or.inl ⟨x.toNatClampNeg, k_lt h1 h2 a (by omega), ?_, h1, by rw [b, ← a]; exact h2, h⟩
    obtain ⟨j, hj, rfl⟩ := nI_of h1
    rw [nI_clamp hj]
theorem rr_message (h : RR X M) (x w : Int32) : r_S_message X M0 x w = r_M_message X0 M x w := by
  obtain ⟨v, hI, hX, hM⟩ := h
  have hn := INV_len hI
  unfold r_S_message r_M_message
  by_cases e : x = -1
  · rw [if_pos e, if_pos e, px_n hX, pm_n hM]
  · rw [if_neg e, if_neg e]
    rcases has_is (M0 := M0) hX hM hn x with ⟨k, hk, rfl, h1, h2, h3⟩ | ⟨h3, h4⟩
    · rw [if_neg h3, if_neg h1, if_pos h2]
      have ik : (nI k).toNatClampNeg = k := nI_clamp (by omega)
      have fX : ∀ t, t < 7 → X 0 t k = pq_at v.1 k t := fun t ht => hX 0 t k (by unfold pq_xd; omega)
      unfold r_A_part
      rw [ik, show M 16 k = pq_at v.1 k 0 from hM 16 k (by unfold pq_md; omega), show M 17 k = pq_at v.1 k 1 from hM 17 k (by unfold pq_md; omega), show M 18 k = pq_at v.1 k 2 from hM 18 k (by unfold pq_md; omega), show M 19 k = pq_at v.1 k 3 from hM 19 k (by unfold pq_md; omega), show M 20 k = pq_at v.1 k 4 from hM 20 k (by unfold pq_md; omega), show M 21 k = pq_at v.1 k 5 from hM 21 k (by unfold pq_md; omega)]
      by_cases c0 : w = 0
      · subst c0; exact fX 0 (by omega)
      by_cases c1 : w = 1
      · subst c1; exact fX 1 (by omega)
      by_cases c2 : w = 2
      · subst c2; exact fX 2 (by omega)
      by_cases c3 : w = 3
      · subst c3; exact fX 3 (by omega)
      by_cases c4 : w = 4
      · subst c4; exact fX 4 (by omega)
      by_cases c5 : w = 5
      · subst c5; exact fX 5 (by omega)
      rw [if_neg c0, if_neg c1, if_neg c2, if_neg c3, if_neg c4, if_neg c5]
      have := z_out6 c0 c1 c2 c3 c4 c5
      by_cases y : w < 0
      · rw [if_pos y]
      · rw [if_neg y, if_neg]
        intro y2
        rw [Int32.lt_iff_toInt_lt] at y
        rw [Int32.le_iff_toInt_le] at y2
        have e5 : (5 : Int32).toInt = 5 := rfl
        have e0 : (0 : Int32).toInt = 0 := rfl
        omega
    · rw [if_pos h3]
      rcases h4 with z | ⟨y, z⟩
      · rw [if_pos z]
      · rw [if_neg y, if_neg z]
theorem rr_carried (h : RR X M) (x : Int32) : r_S_carried X M0 x = r_M_carried X0 M x := by
  obtain ⟨v, hI, hX, hM⟩ := h
  have hn := INV_len hI
  unfold r_S_carried r_M_carried
  rcases has_is (M0 := M0) hX hM hn x with ⟨k, hk, rfl, h1, h2, h3⟩ | ⟨h3, h4⟩
  · rw [if_neg h3, if_neg h1, if_pos h2]
    unfold r_A_part
    rw [nI_clamp (by omega), show M 22 k = pq_at v.1 k 6 from hM 22 k (by unfold pq_md; omega)]
    exact hX 0 6 k (by unfold pq_xd; omega)
  · rw [if_pos h3]
    rcases h4 with z | ⟨y, z⟩
    · rw [if_pos z]
    · rw [if_neg y, if_neg z]
theorem rr_deliver (h : RR X M) (x : Int32) : r_S_deliver X M0 x = r_M_deliver X0 M x ∧ RR (x_S_deliver X M0 x) (m_M_deliver X0 M x) := by
  obtain ⟨v, hI, hX, hM⟩ := h
  have hn := INV_len hI
  unfold r_S_deliver r_M_deliver x_S_deliver m_M_deliver
  rcases has_is (M0 := M0) hX hM hn x with ⟨k, hk, rfl, h1, h2, h3⟩ | ⟨h3, h4⟩
  · rw [if_neg h3, if_neg h3, if_neg h1, if_neg h1, if_pos h2, if_pos h2, nI_clamp (by omega)]
    have e1 := gx_fate (M := M0) hI hX hk
    have e2 := gm_fate (X := X0) hI hM hk
    refine ⟨by rw [e1, e2], ?_⟩
    by_cases f : vo_fate v k = 2
    · rw [if_pos (by rw [e1]; exact f)]
      exact ⟨_, inv_op hI hk f, px_hand hX (by omega) hk (vo_ok_of hI hk f), pm_move hM (by omega) hk (vo_ok_of hI hk f) (by rw [e2]; exact f)⟩
    · rw [if_neg (by rw [e1]; exact f), m_move_no (by rw [e2]; exact f)]
      exact ⟨v, hI, hX, hM⟩
  · rw [if_pos h3, if_pos h3]
    rcases h4 with z | ⟨y, z⟩
    · rw [if_pos z, if_pos z]; exact ⟨rfl, v, hI, hX, hM⟩
    · rw [if_neg y, if_neg z, if_neg y, if_neg z]; exact ⟨rfl, v, hI, hX, hM⟩
theorem rr_in {v : pv_V} (hI : INV v) (hX : PX v X) (hM : PM v M) : ∀ c i, i + c = v.1.length → (x_old X M0 c i = X 2 0 0 ∧ m_in X0 M c i = (M, 0)) ∨ ∃ j, j < v.1.length ∧ x_old X M0 c i = nI j ∧ vo_fate v j = 2 ∧ m_in X0 M c i = (m_M_move X0 M j, 1)
  | 0, i, _ => Or.inl ⟨rfl, rfl⟩
  | c + 1, i, hi => by
    have hk : i < v.1.length := by omega
    have e1 := gx_fate (M := M0) hI hX hk
    have e2 := gm_fate (X := X0) hI hM hk
    rw [x_old, m_in, e1, e2]
    by_cases f : vo_fate v i = 2
    · rw [if_pos f, if_pos f]; exact Or.inr ⟨i, hk, rfl, f, rfl⟩
    · rw [if_neg f, if_neg f]; exact rr_in hI hX hM c (i + 1) (by omega)
theorem rr_out {T : Nat} : ∀ c t (X : zXS) (M : zMS), t + c = T → RR X M → (x_run M0 (nI T) c t X).1 = (m_out X0 c t M).1 ∧ RR (x_run M0 (nI T) c t X).2 (m_out X0 c t M).2
  | 0, t, X, M, ht, h => by
    rw [x_run, m_out]
    exact ⟨by rw [show T = t by omega], h⟩
  | c + 1, t, X, M, ht, h => by
    obtain ⟨v, hI, hX, hM⟩ := h
    have hn := INV_len hI
    have key := rr_in (M0 := M0) (X0 := X0) hI hX hM v.1.length 0 (by omega)
    rw [x_run, m_out]
    unfold r_S_oldestToTake
    rw [pm_n hM, show Int32.toNatClampNeg (X 2 0 0) = v.1.length by rw [px_n hX, nI_clamp (by omega)], nI_clamp (by omega)]
    rcases key with ⟨k1, k2⟩ | ⟨j, hj, k1, f, k2⟩
    · rw [k1, k2]
      have : r_A_has X M0 (X 2 0 0) = 0 := by
        unfold r_A_has
        split
        · rfl
        · rw [if_pos (Int32.le_refl _)]
      rw [if_pos this, if_pos rfl]
      exact ⟨rfl, v, hI, hX, hM⟩
    · rw [k1, k2]
      have : ¬ r_A_has X M0 (nI j) = 0 := by
        unfold r_A_has
        have l1 : ¬ nI j < 0 := by
          intro z
          have := (nI_ltI (a := j) (b := 0) (by omega) (by omega)).mp z
          omega
        rw [if_neg l1, px_n hX, if_neg]
        · decide
        · intro z
          have := (nI_leI (a := v.1.length) (b := j) (by omega) (by omega)).mp z
          omega
      rw [if_neg this, if_neg (show ¬ ((m_M_move X0 M j, (1 : Int32)).2 = 0) from (by decide : ¬ ((1 : Int32) = 0))), nI_clamp (by omega)]
      have e2 := gm_fate (X := X0) hI hM hj
      exact rr_out c (t + 1) _ _ (by omega) ⟨_, inv_op hI hj f, px_hand hX (by omega) hj (vo_ok_of hI hj f), pm_move hM (by omega) hj (vo_ok_of hI hj f) (by rw [e2]; exact f)⟩
theorem rr_run (h : RR X M) (x : Int32) : r_S_run X M0 x = r_M_run X0 M x ∧ RR (x_S_run X M0 x) (m_M_run X0 M x) := by
  unfold r_S_run x_S_run r_M_run m_M_run m_most
  by_cases h1 : x < 1
  · rw [if_pos h1, if_pos h1, if_pos h1]
    exact ⟨rfl, h⟩
  · rw [if_neg h1, if_neg h1, if_neg h1]
    by_cases h2 : x ≤ 64
    · rw [if_pos h2, if_pos h2, if_pos h2]
      have h0 : ¬ x < 0 := by
        intro z
        apply h1
        rw [Int32.lt_iff_toInt_lt] at z ⊢
        have e1 : (1 : Int32).toInt = 1 := rfl
        have e0 : (0 : Int32).toInt = 0 := rfl
        omega
      obtain ⟨j, hj, rfl⟩ := nI_of h0
      rw [nI_clamp hj]
      exact rr_out j 0 X M (by omega) h
    · rw [if_neg h2, if_neg h2, if_neg h2]
      exact ⟨rfl, h⟩
end RQ
