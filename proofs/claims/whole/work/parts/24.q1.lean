/-! Pictures of one abstract value by the class's X and the model's M -/
def pq_part (m : pv_Msg) (w : Nat) : Int32 := match w with
  | 0 => nI (mkd m)
  | 1 => nI (mln m)
  | 2 => nI (msn m)
  | 3 => nI (mto m)
  | 4 => nI (mrq m)
  | 5 => nI (mnm m)
  | _ => mcv m
def pq_get (L : List pv_Msg) (k : Nat) : pv_Msg := (L[k]?).getD (0, 0, 0, 0, 0, 0, 0)
def pq_at (L : List pv_Msg) (k w : Nat) : Int32 := pq_part (pq_get L k) w
theorem pq_get_snoc (L : List pv_Msg) (m : pv_Msg) {k : Nat} (h : k < L.length + 1) : pq_get (L ++ [m]) k = if k = L.length then m else pq_get L k := by
  unfold pq_get
  split
  · next e => subst e; simp
  · next e => rw [List.getElem?_append_left (by omega)]
theorem pq_get_del (L : List pv_Msg) (j k : Nat) : pq_get (L.eraseIdx j) k = if k < j then pq_get L k else pq_get L (k + 1) := by
  unfold pq_get
  rw [List.getElem?_eraseIdx]
  split <;> rfl
theorem pq_get_some {L : List pv_Msg} {k : Nat} (h : k < L.length) : L[k]? = some (pq_get L k) := by
  unfold pq_get
  rw [List.getElem?_eq_getElem h]
  rfl
def pq_xe (v : pv_V) (t c l : Nat) : Int32 := match t with
  | 0 => pq_at v.1 l c
  | 1 => v.2.1 0 c l
  | 2 => nI v.1.length
  | 3 => nI (v.2.2 0 c l)
  | 4 => v.2.1 1 c l
  | 5 => nI (v.2.2 2 c l) - nI (v.2.2 1 c l)
  | 6 => nI (v.2.2 3 c 0)
  | 7 => nI (v.2.2 4 c 0)
  | 8 => v.2.1 2 c 0
  | 9 => v.2.1 3 c 0
  | 10 => v.2.1 4 c 0
  | 11 => v.2.1 5 0 l
  | 12 => nI (v.2.2 5 0 l)
  | 13 => nI (v.2.2 6 0 l)
  | _ => nI (v.2.2 7 0 l)
def pq_xd (n t c l : Nat) : Prop := (t = 0 ∧ c < 7 ∧ l < n) ∨ ((t = 1 ∨ t = 3 ∨ t = 4 ∨ t = 5) ∧ c < 4 ∧ l < 4) ∨ (t = 2 ∧ c = 0 ∧ l = 0) ∨ ((t = 6 ∨ t = 7 ∨ t = 8 ∨ t = 9 ∨ t = 10) ∧ c < 4 ∧ l = 0) ∨ ((t = 11 ∨ t = 12 ∨ t = 13 ∨ t = 14) ∧ c = 0 ∧ l < 4)
def PX (v : pv_V) (X : zXS) : Prop := ∀ t c l, pq_xd v.1.length t c l → X t c l = pq_xe v t c l
def pq_me (v : pv_V) (t i : Nat) : Int32 := match t with
  | 0 => nI (v.2.2 0 (i / 4) (i % 4))
  | 1 => v.2.1 1 (i / 4) (i % 4)
  | 2 => nI (v.2.2 2 (i / 4) (i % 4))
  | 3 => nI (v.2.2 1 (i / 4) (i % 4))
  | 4 => v.2.1 0 (i / 4) (i % 4)
  | 5 => nI (v.2.2 3 i 0)
  | 7 => nI (v.2.2 4 i 0)
  | 8 => v.2.1 2 i 0
  | 9 => v.2.1 3 i 0
  | 10 => v.2.1 4 i 0
  | 11 => nI (v.2.2 5 0 i)
  | 12 => nI (v.2.2 6 0 i)
  | 13 => nI (v.2.2 7 0 i)
  | 14 => v.2.1 5 0 i
  | 15 => nI v.1.length
  | 16 => pq_at v.1 i 0
  | 17 => pq_at v.1 i 1
  | 18 => pq_at v.1 i 2
  | 19 => pq_at v.1 i 3
  | 20 => pq_at v.1 i 4
  | 21 => pq_at v.1 i 5
  | _ => pq_at v.1 i 6
def pq_md (n t i : Nat) : Prop := ((t = 0 ∨ t = 1 ∨ t = 2 ∨ t = 3 ∨ t = 4) ∧ i < 16) ∨ ((t = 5 ∨ t = 7 ∨ t = 8 ∨ t = 9 ∨ t = 10 ∨ t = 11 ∨ t = 12 ∨ t = 13 ∨ t = 14) ∧ i < 4) ∨ (t = 15 ∧ i = 0) ∨ ((t = 16 ∨ t = 17 ∨ t = 18 ∨ t = 19 ∨ t = 20 ∨ t = 21 ∨ t = 22) ∧ i < n)
def PM (v : pv_V) (M : zMS) : Prop := ∀ t i, pq_md v.1.length t i → M t i = pq_me v t i
theorem u3_at (X : zXS) (t c l : Nat) (x : Int32) (t' c' l' : Nat) : u3 X t c l x t' c' l' = if t' = t ∧ c' = c ∧ l' = l then x else X t' c' l' := by
  unfold u3 upd
  by_cases h1 : t' = t
  · by_cases h2 : c' = c
    · by_cases h3 : l' = l <;> simp [h1, h2, h3]
    · simp [h1, h2]
  · simp [h1]
theorem u2_at (M : zMS) (t i : Nat) (x : Int32) (t' i' : Nat) : u2 M t i x t' i' = if t' = t ∧ i' = i then x else M t' i' := by
  unfold u2 upd
  by_cases h1 : t' = t
  · by_cases h2 : i' = i <;> simp [h1, h2]
  · simp [h1]
theorem px_upd {v v' : pv_V} {X : zXS} {t c l : Nat} {x : Int32} (h : PX v X) (hl : v'.1.length = v.1.length) (he : ∀ t' c' l', pq_xd v.1.length t' c' l' → pq_xe v' t' c' l' = if t' = t ∧ c' = c ∧ l' = l then x else pq_xe v t' c' l') : PX v' (u3 X t c l x) := by
  intro t' c' l' hd
  rw [hl] at hd
  rw [u3_at, he t' c' l' hd]
  split
  · rfl
  · exact h t' c' l' hd
theorem pm_upd {v v' : pv_V} {M : zMS} {t i : Nat} {x : Int32} (h : PM v M) (hl : v'.1.length = v.1.length) (he : ∀ t' i', pq_md v.1.length t' i' → pq_me v' t' i' = if t' = t ∧ i' = i then x else pq_me v t' i') : PM v' (u2 M t i x) := by
  intro t' i' hd
  rw [hl] at hd
  rw [u2_at, he t' i' hd]
  split
  · rfl
  · exact h t' i' hd
/-- a field that the picture doesn't show -/
theorem pm_skip {v : pv_V} {M : zMS} {i : Nat} {x : Int32} (h : PM v M) : PM v (u2 M 6 i x) := by
  intro t' i' hd
  rw [u2_at, if_neg]
  · exact h t' i' hd
  · rintro ⟨rfl, -⟩
    rcases hd with ⟨h1, -⟩ | ⟨h1, -⟩ | ⟨h1, -⟩ | ⟨h1, -⟩ <;> omega
theorem pq_div {c l : Nat} (hl : l < 4) : (4 * c + l) / 4 = c ∧ (4 * c + l) % 4 = l := by omega
theorem px_st {v : pv_V} {X : zXS} {c l : Nat} {x : Nat} (h : PX v X) : PX (pv_sN v 0 c l x) (u3 X 3 c l (nI x)) := by
  refine px_upd h rfl ?_
  intro t' c' l' hd
  rcases hd with ⟨rfl, h1, h2⟩ | ⟨rfl | rfl | rfl | rfl, h1, h2⟩ | ⟨rfl, rfl, rfl⟩ | ⟨rfl | rfl | rfl | rfl | rfl, h1, rfl⟩ | ⟨rfl | rfl | rfl | rfl, rfl, h2⟩ <;> simp [pq_xe, pv_sN, pv_u3] <;> split <;> simp_all
theorem px_val {v : pv_V} {X : zXS} {c l : Nat} {x : Int32} (h : PX v X) : PX (pv_sI v 1 c l x) (u3 X 4 c l x) := by
  refine px_upd h rfl ?_
  intro t' c' l' hd
  rcases hd with ⟨rfl, h1, h2⟩ | ⟨rfl | rfl | rfl | rfl, h1, h2⟩ | ⟨rfl, rfl, rfl⟩ | ⟨rfl | rfl | rfl | rfl | rfl, h1, rfl⟩ | ⟨rfl | rfl | rfl | rfl, rfl, h2⟩ <;> simp [pq_xe, pv_sI, pv_u3] <;> split <;> simp_all
theorem px_wt {v : pv_V} {X : zXS} {c : Nat} {x : Nat} (h : PX v X) : PX (pv_sN v 3 c 0 x) (u3 X 6 c 0 (nI x)) := by
  refine px_upd h rfl ?_
  intro t' c' l' hd
  rcases hd with ⟨rfl, h1, h2⟩ | ⟨rfl | rfl | rfl | rfl, h1, h2⟩ | ⟨rfl, rfl, rfl⟩ | ⟨rfl | rfl | rfl | rfl | rfl, h1, rfl⟩ | ⟨rfl | rfl | rfl | rfl, rfl, h2⟩ <;> simp [pq_xe, pv_sN, pv_u3] <;> split <;> simp_all
theorem px_op {v : pv_V} {X : zXS} {c : Nat} {x : Nat} (h : PX v X) : PX (pv_sN v 4 c 0 x) (u3 X 7 c 0 (nI x)) := by
  refine px_upd h rfl ?_
  intro t' c' l' hd
  rcases hd with ⟨rfl, h1, h2⟩ | ⟨rfl | rfl | rfl | rfl, h1, h2⟩ | ⟨rfl, rfl, rfl⟩ | ⟨rfl | rfl | rfl | rfl | rfl, h1, rfl⟩ | ⟨rfl | rfl | rfl | rfl, rfl, h2⟩ <;> simp [pq_xe, pv_sN, pv_u3] <;> split <;> simp_all
theorem px_opd {v : pv_V} {X : zXS} {c : Nat} {x : Int32} (h : PX v X) : PX (pv_sI v 2 c 0 x) (u3 X 8 c 0 x) := by
  refine px_upd h rfl ?_
  intro t' c' l' hd
  rcases hd with ⟨rfl, h1, h2⟩ | ⟨rfl | rfl | rfl | rfl, h1, h2⟩ | ⟨rfl, rfl, rfl⟩ | ⟨rfl | rfl | rfl | rfl | rfl, h1, rfl⟩ | ⟨rfl | rfl | rfl | rfl, rfl, h2⟩ <;> simp [pq_xe, pv_sI, pv_u3] <;> split <;> simp_all
theorem px_fin {v : pv_V} {X : zXS} {c : Nat} {x : Int32} (h : PX v X) : PX (pv_sI v 3 c 0 x) (u3 X 9 c 0 x) := by
  refine px_upd h rfl ?_
  intro t' c' l' hd
  rcases hd with ⟨rfl, h1, h2⟩ | ⟨rfl | rfl | rfl | rfl, h1, h2⟩ | ⟨rfl, rfl, rfl⟩ | ⟨rfl | rfl | rfl | rfl | rfl, h1, rfl⟩ | ⟨rfl | rfl | rfl | rfl, rfl, h2⟩ <;> simp [pq_xe, pv_sI, pv_u3] <;> split <;> simp_all
theorem px_res {v : pv_V} {X : zXS} {c : Nat} {x : Int32} (h : PX v X) : PX (pv_sI v 4 c 0 x) (u3 X 10 c 0 x) := by
  refine px_upd h rfl ?_
  intro t' c' l' hd
  rcases hd with ⟨rfl, h1, h2⟩ | ⟨rfl | rfl | rfl | rfl, h1, h2⟩ | ⟨rfl, rfl, rfl⟩ | ⟨rfl | rfl | rfl | rfl | rfl, h1, rfl⟩ | ⟨rfl | rfl | rfl | rfl, rfl, h2⟩ <;> simp [pq_xe, pv_sI, pv_u3] <;> split <;> simp_all
theorem px_mem {v : pv_V} {X : zXS} {l : Nat} {x : Int32} (h : PX v X) : PX (pv_sI v 5 0 l x) (u3 X 11 0 l x) := by
  refine px_upd h rfl ?_
  intro t' c' l' hd
  rcases hd with ⟨rfl, h1, h2⟩ | ⟨rfl | rfl | rfl | rfl, h1, h2⟩ | ⟨rfl, rfl, rfl⟩ | ⟨rfl | rfl | rfl | rfl | rfl, h1, rfl⟩ | ⟨rfl | rfl | rfl | rfl, rfl, h2⟩ <;> simp [pq_xe, pv_sI, pv_u3] <;> split <;> simp_all
theorem px_kp {v : pv_V} {X : zXS} {l : Nat} {x : Nat} (h : PX v X) : PX (pv_sN v 5 0 l x) (u3 X 12 0 l (nI x)) := by
  refine px_upd h rfl ?_
  intro t' c' l' hd
  rcases hd with ⟨rfl, h1, h2⟩ | ⟨rfl | rfl | rfl | rfl, h1, h2⟩ | ⟨rfl, rfl, rfl⟩ | ⟨rfl | rfl | rfl | rfl | rfl, h1, rfl⟩ | ⟨rfl | rfl | rfl | rfl, rfl, h2⟩ <;> simp [pq_xe, pv_sN, pv_u3] <;> split <;> simp_all
theorem px_ow {v : pv_V} {X : zXS} {l : Nat} {x : Nat} (h : PX v X) : PX (pv_sN v 6 0 l x) (u3 X 13 0 l (nI x)) := by
  refine px_upd h rfl ?_
  intro t' c' l' hd
  rcases hd with ⟨rfl, h1, h2⟩ | ⟨rfl | rfl | rfl | rfl, h1, h2⟩ | ⟨rfl, rfl, rfl⟩ | ⟨rfl | rfl | rfl | rfl | rfl, h1, rfl⟩ | ⟨rfl | rfl | rfl | rfl, rfl, h2⟩ <;> simp [pq_xe, pv_sN, pv_u3] <;> split <;> simp_all
theorem px_sh {v : pv_V} {X : zXS} {l : Nat} {x : Nat} (h : PX v X) : PX (pv_sN v 7 0 l x) (u3 X 14 0 l (nI x)) := by
  refine px_upd h rfl ?_
  intro t' c' l' hd
  rcases hd with ⟨rfl, h1, h2⟩ | ⟨rfl | rfl | rfl | rfl, h1, h2⟩ | ⟨rfl, rfl, rfl⟩ | ⟨rfl | rfl | rfl | rfl | rfl, h1, rfl⟩ | ⟨rfl | rfl | rfl | rfl, rfl, h2⟩ <;> simp [pq_xe, pv_sN, pv_u3] <;> split <;> simp_all
theorem pm_st {v : pv_V} {M : zMS} {c l : Nat} {x : Nat} (hl : l < 4) (h : PM v M) : PM (pv_sN v 0 c l x) (u2 M 0 (4 * c + l) (nI x)) := by
  refine pm_upd h rfl ?_
  intro t' i' hd
  have e : (i' / 4 = c ∧ i' % 4 = l) ↔ i' = 4 * c + l := by omega
  rcases hd with ⟨rfl | rfl | rfl | rfl | rfl, h1⟩ | ⟨rfl | rfl | rfl | rfl | rfl | rfl | rfl | rfl | rfl, h1⟩ | ⟨rfl, rfl⟩ | ⟨rfl | rfl | rfl | rfl | rfl | rfl | rfl, h1⟩ <;> simp [pq_me, pv_sN, pv_u3, e] <;> split <;> simp_all
theorem pm_val {v : pv_V} {M : zMS} {c l : Nat} {x : Int32} (hl : l < 4) (h : PM v M) : PM (pv_sI v 1 c l x) (u2 M 1 (4 * c + l) x) := by
  refine pm_upd h rfl ?_
  intro t' i' hd
  have e : (i' / 4 = c ∧ i' % 4 = l) ↔ i' = 4 * c + l := by omega
  rcases hd with ⟨rfl | rfl | rfl | rfl | rfl, h1⟩ | ⟨rfl | rfl | rfl | rfl | rfl | rfl | rfl | rfl | rfl, h1⟩ | ⟨rfl, rfl⟩ | ⟨rfl | rfl | rfl | rfl | rfl | rfl | rfl, h1⟩ <;> simp [pq_me, pv_sI, pv_u3, e] <;> split <;> simp_all
theorem pm_need {v : pv_V} {M : zMS} {c l : Nat} {x : Nat} (hl : l < 4) (h : PM v M) : PM (pv_sN v 2 c l x) (u2 M 2 (4 * c + l) (nI x)) := by
  refine pm_upd h rfl ?_
  intro t' i' hd
  have e : (i' / 4 = c ∧ i' % 4 = l) ↔ i' = 4 * c + l := by omega
  rcases hd with ⟨rfl | rfl | rfl | rfl | rfl, h1⟩ | ⟨rfl | rfl | rfl | rfl | rfl | rfl | rfl | rfl | rfl, h1⟩ | ⟨rfl, rfl⟩ | ⟨rfl | rfl | rfl | rfl | rfl | rfl | rfl, h1⟩ <;> simp [pq_me, pv_sN, pv_u3, e] <;> split <;> simp_all
theorem pm_got {v : pv_V} {M : zMS} {c l : Nat} {x : Nat} (hl : l < 4) (h : PM v M) : PM (pv_sN v 1 c l x) (u2 M 3 (4 * c + l) (nI x)) := by
  refine pm_upd h rfl ?_
  intro t' i' hd
  have e : (i' / 4 = c ∧ i' % 4 = l) ↔ i' = 4 * c + l := by omega
  rcases hd with ⟨rfl | rfl | rfl | rfl | rfl, h1⟩ | ⟨rfl | rfl | rfl | rfl | rfl | rfl | rfl | rfl | rfl, h1⟩ | ⟨rfl, rfl⟩ | ⟨rfl | rfl | rfl | rfl | rfl | rfl | rfl, h1⟩ <;> simp [pq_me, pv_sN, pv_u3, e] <;> split <;> simp_all
theorem pm_wt {v : pv_V} {M : zMS} {c : Nat} {x : Nat} (h : PM v M) : PM (pv_sN v 3 c 0 x) (u2 M 5 c (nI x)) := by
  refine pm_upd h rfl ?_
  intro t' i' hd
  rcases hd with ⟨rfl | rfl | rfl | rfl | rfl, h1⟩ | ⟨rfl | rfl | rfl | rfl | rfl | rfl | rfl | rfl | rfl, h1⟩ | ⟨rfl, rfl⟩ | ⟨rfl | rfl | rfl | rfl | rfl | rfl | rfl, h1⟩ <;> simp [pq_me, pv_sN, pv_u3] <;> split <;> simp_all
theorem pm_op {v : pv_V} {M : zMS} {c : Nat} {x : Nat} (h : PM v M) : PM (pv_sN v 4 c 0 x) (u2 M 7 c (nI x)) := by
  refine pm_upd h rfl ?_
  intro t' i' hd
  rcases hd with ⟨rfl | rfl | rfl | rfl | rfl, h1⟩ | ⟨rfl | rfl | rfl | rfl | rfl | rfl | rfl | rfl | rfl, h1⟩ | ⟨rfl, rfl⟩ | ⟨rfl | rfl | rfl | rfl | rfl | rfl | rfl, h1⟩ <;> simp [pq_me, pv_sN, pv_u3] <;> split <;> simp_all
theorem pm_opd {v : pv_V} {M : zMS} {c : Nat} {x : Int32} (h : PM v M) : PM (pv_sI v 2 c 0 x) (u2 M 8 c x) := by
  refine pm_upd h rfl ?_
  intro t' i' hd
  rcases hd with ⟨rfl | rfl | rfl | rfl | rfl, h1⟩ | ⟨rfl | rfl | rfl | rfl | rfl | rfl | rfl | rfl | rfl, h1⟩ | ⟨rfl, rfl⟩ | ⟨rfl | rfl | rfl | rfl | rfl | rfl | rfl, h1⟩ <;> simp [pq_me, pv_sI, pv_u3] <;> split <;> simp_all
theorem pm_fin {v : pv_V} {M : zMS} {c : Nat} {x : Int32} (h : PM v M) : PM (pv_sI v 3 c 0 x) (u2 M 9 c x) := by
  refine pm_upd h rfl ?_
  intro t' i' hd
  rcases hd with ⟨rfl | rfl | rfl | rfl | rfl, h1⟩ | ⟨rfl | rfl | rfl | rfl | rfl | rfl | rfl | rfl | rfl, h1⟩ | ⟨rfl, rfl⟩ | ⟨rfl | rfl | rfl | rfl | rfl | rfl | rfl, h1⟩ <;> simp [pq_me, pv_sI, pv_u3] <;> split <;> simp_all
theorem pm_res {v : pv_V} {M : zMS} {c : Nat} {x : Int32} (h : PM v M) : PM (pv_sI v 4 c 0 x) (u2 M 10 c x) := by
  refine pm_upd h rfl ?_
  intro t' i' hd
  rcases hd with ⟨rfl | rfl | rfl | rfl | rfl, h1⟩ | ⟨rfl | rfl | rfl | rfl | rfl | rfl | rfl | rfl | rfl, h1⟩ | ⟨rfl, rfl⟩ | ⟨rfl | rfl | rfl | rfl | rfl | rfl | rfl, h1⟩ <;> simp [pq_me, pv_sI, pv_u3] <;> split <;> simp_all
theorem pm_mem {v : pv_V} {M : zMS} {l : Nat} {x : Int32} (h : PM v M) : PM (pv_sI v 5 0 l x) (u2 M 14 l x) := by
  refine pm_upd h rfl ?_
  intro t' i' hd
  rcases hd with ⟨rfl | rfl | rfl | rfl | rfl, h1⟩ | ⟨rfl | rfl | rfl | rfl | rfl | rfl | rfl | rfl | rfl, h1⟩ | ⟨rfl, rfl⟩ | ⟨rfl | rfl | rfl | rfl | rfl | rfl | rfl, h1⟩ <;> simp [pq_me, pv_sI, pv_u3] <;> split <;> simp_all
theorem pm_kp {v : pv_V} {M : zMS} {l : Nat} {x : Nat} (h : PM v M) : PM (pv_sN v 5 0 l x) (u2 M 11 l (nI x)) := by
  refine pm_upd h rfl ?_
  intro t' i' hd
  rcases hd with ⟨rfl | rfl | rfl | rfl | rfl, h1⟩ | ⟨rfl | rfl | rfl | rfl | rfl | rfl | rfl | rfl | rfl, h1⟩ | ⟨rfl, rfl⟩ | ⟨rfl | rfl | rfl | rfl | rfl | rfl | rfl, h1⟩ <;> simp [pq_me, pv_sN, pv_u3] <;> split <;> simp_all
theorem pm_ow {v : pv_V} {M : zMS} {l : Nat} {x : Nat} (h : PM v M) : PM (pv_sN v 6 0 l x) (u2 M 12 l (nI x)) := by
  refine pm_upd h rfl ?_
  intro t' i' hd
  rcases hd with ⟨rfl | rfl | rfl | rfl | rfl, h1⟩ | ⟨rfl | rfl | rfl | rfl | rfl | rfl | rfl | rfl | rfl, h1⟩ | ⟨rfl, rfl⟩ | ⟨rfl | rfl | rfl | rfl | rfl | rfl | rfl, h1⟩ <;> simp [pq_me, pv_sN, pv_u3] <;> split <;> simp_all
theorem pm_sh {v : pv_V} {M : zMS} {l : Nat} {x : Nat} (h : PM v M) : PM (pv_sN v 7 0 l x) (u2 M 13 l (nI x)) := by
  refine pm_upd h rfl ?_
  intro t' i' hd
  rcases hd with ⟨rfl | rfl | rfl | rfl | rfl, h1⟩ | ⟨rfl | rfl | rfl | rfl | rfl | rfl | rfl | rfl | rfl, h1⟩ | ⟨rfl, rfl⟩ | ⟨rfl | rfl | rfl | rfl | rfl | rfl | rfl, h1⟩ <;> simp [pq_me, pv_sN, pv_u3] <;> split <;> simp_all
theorem pq_sub0 (a b : Int32) : a - (b + 1) = a - b - 1 := by
  first
  | (rw [Int32.sub_eq_add_neg, Int32.sub_eq_add_neg, Int32.sub_eq_add_neg, Int32.neg_add, ← Int32.add_assoc])
  | (apply Int32.toBitVec_inj.mp; simp only [Int32.toBitVec_sub, Int32.toBitVec_add]; rw [BitVec.sub_add_eq])
  | grind
theorem pq_sub (a : Int32) (n : Nat) : a - nI (n + 1) = a - nI n - 1 := by rw [← nI_1]; exact pq_sub0 _ _
/-- owed: one DROPPED more -/
theorem px_got {v : pv_V} {X : zXS} {c l : Nat} (h : PX v X) (hc : c < 4) (hl : l < 4) : PX (pv_sN v 1 c l (v.2.2 1 c l + 1)) (u3 X 5 c l (X 5 c l - 1)) := by
  have e := h 5 c l (by unfold pq_xd; omega)
  rw [e]
  refine px_upd h rfl ?_
  intro t' c' l' hd
  rcases hd with ⟨rfl, h1, h2⟩ | ⟨rfl | rfl | rfl | rfl, h1, h2⟩ | ⟨rfl, rfl, rfl⟩ | ⟨rfl | rfl | rfl | rfl | rfl, h1, rfl⟩ | ⟨rfl | rfl | rfl | rfl, rfl, h2⟩ <;> simp [pq_xe, pv_sN, pv_u3] <;> split <;> simp_all
  first | exact pq_sub _ _ | exact pq_sub0 _ _
/-- owed: DATA's number comes -/
theorem px_need {v : pv_V} {X : zXS} {c l n : Nat} (h : PX v X) (hc : c < 4) (hl : l < 4) (hz : v.2.2 2 c l = 0) : PX (pv_sN v 2 c l n) (u3 X 5 c l (X 5 c l + nI n)) := by
  have e := h 5 c l (by unfold pq_xd; omega)
  rw [e]
  refine px_upd h rfl ?_
  intro t' c' l' hd
  rcases hd with ⟨rfl, h1, h2⟩ | ⟨rfl | rfl | rfl | rfl, h1, h2⟩ | ⟨rfl, rfl, rfl⟩ | ⟨rfl | rfl | rfl | rfl | rfl, h1, rfl⟩ | ⟨rfl | rfl | rfl | rfl, rfl, h2⟩ <;> simp [pq_xe, pv_sN, pv_u3] <;> split <;> simp_all
  rw [show nI 0 = 0 from rfl, Int32.sub_eq_add_neg, Int32.sub_eq_add_neg, Int32.zero_add, Int32.add_comm]
theorem px_zero {v : pv_V} {X : zXS} {c l : Nat} (h : PX v X) : PX (pv_sN (pv_sN v 1 c l 0) 2 c l 0) (u3 X 5 c l 0) := by
  refine px_upd h rfl ?_
  intro t' c' l' hd
  rcases hd with ⟨rfl, h1, h2⟩ | ⟨rfl | rfl | rfl | rfl, h1, h2⟩ | ⟨rfl, rfl, rfl⟩ | ⟨rfl | rfl | rfl | rfl | rfl, h1, rfl⟩ | ⟨rfl | rfl | rfl | rfl, rfl, h2⟩ <;> simp [pq_xe, pv_sN, pv_u3] <;> split <;> simp_all
