/-! The abstract value: (messages, Int32 numbers, Nat numbers).
Int32: 0 tally (core, line) 1 value (core, line) 2 operand 3 finished 4 result (core, 0) 5 memory (0, line)
Nat: 0 state 1 got 2 needed (core, line) 3 waits 4 operation (core, 0) 5 keeping 6 owner 7 sharers (0, line) -/
abbrev pv_Msg : Type := Nat × Nat × Nat × Nat × Nat × Nat × Int32
def mkd (m : pv_Msg) : Nat := m.1
def mln (m : pv_Msg) : Nat := m.2.1
def msn (m : pv_Msg) : Nat := m.2.2.1
def mto (m : pv_Msg) : Nat := m.2.2.2.1
def mrq (m : pv_Msg) : Nat := m.2.2.2.2.1
def mnm (m : pv_Msg) : Nat := m.2.2.2.2.2.1
def mcv (m : pv_Msg) : Int32 := m.2.2.2.2.2.2
abbrev pv_V : Type := List pv_Msg × (Nat → Nat → Nat → Int32) × (Nat → Nat → Nat → Nat)
def pv_u3 {α : Type} (f : Nat → Nat → Nat → α) (t c l : Nat) (x : α) : Nat → Nat → Nat → α := fun t' c' l' => if t' = t ∧ c' = c ∧ l' = l then x else f t' c' l'
def pv_sI (v : pv_V) (t c l : Nat) (x : Int32) : pv_V := (v.1, pv_u3 v.2.1 t c l x, v.2.2)
def pv_sN (v : pv_V) (t c l x : Nat) : pv_V := (v.1, v.2.1, pv_u3 v.2.2 t c l x)
def pv_snd (v : pv_V) (m : pv_Msg) : pv_V := (v.1 ++ [m], pv_u3 v.2.1 0 (mrq m) (mln m) (if mkd m ≤ 4 then 1 else v.2.1 0 (mrq m) (mln m) + 1), v.2.2)
def pv_del (v : pv_V) (k : Nat) : pv_V := (v.1.eraseIdx k, v.2.1, v.2.2)
/-- counters of a line -/
def pv_b1 (j a d : Nat) (m : pv_Msg) : Nat := if mln m = a then pv_bk j d (mkd m) (mto m) (mrq m) (mnm m) else 0
def pv_cn (j a d : Nat) (L : List pv_Msg) : Nat := (L.map (pv_b1 j a d)).sum
theorem pv_cn_app (j a d : Nat) (L K : List pv_Msg) : pv_cn j a d (L ++ K) = pv_cn j a d L + pv_cn j a d K := by
  simp [pv_cn]
theorem pv_cn_one (j a d : Nat) (m : pv_Msg) : pv_cn j a d [m] = pv_b1 j a d m := by
  simp [pv_cn]
theorem pv_cn_nil (j a d : Nat) : pv_cn j a d [] = 0 := rfl
theorem pv_cn_cons (j a d : Nat) (m : pv_Msg) (L : List pv_Msg) : pv_cn j a d (m :: L) = pv_b1 j a d m + pv_cn j a d L := by
  simp [pv_cn]
theorem pv_cn_del (j a d : Nat) : ∀ (L : List pv_Msg) (k : Nat) (m : pv_Msg), L[k]? = some m → pv_cn j a d (L.eraseIdx k) + pv_b1 j a d m = pv_cn j a d L
  | [], k, m, h => by simp at h
  | x :: L, 0, m, h => by
    simp only [List.getElem?_cons_zero, Option.some.injEq] at h
    subst h
    rw [List.eraseIdx_cons_zero, pv_cn_cons]
    omega
  | x :: L, k + 1, m, h => by
    rw [List.getElem?_cons_succ] at h
    rw [List.eraseIdx_cons_succ, pv_cn_cons, pv_cn_cons]
    have := pv_cn_del j a d L k m h
    omega
theorem pv_cn_in {j a d : Nat} {L : List pv_Msg} {m : pv_Msg} (h : m ∈ L) : pv_b1 j a d m ≤ pv_cn j a d L := by
  obtain ⟨k, hk⟩ := List.getElem?_of_mem h
  have := pv_cn_del j a d L k m hk
  omega
theorem pv_cn_ex {j a d : Nat} : ∀ {L : List pv_Msg}, 1 ≤ pv_cn j a d L → ∃ m ∈ L, 1 ≤ pv_b1 j a d m
  | [], h => by simp [pv_cn] at h
  | x :: L, h => by
    rw [pv_cn_cons] at h
    by_cases z : 1 ≤ pv_b1 j a d x
    · exact ⟨x, List.mem_cons_self, z⟩
    · obtain ⟨m, hm, h1⟩ := pv_cn_ex (j := j) (a := a) (d := d) (L := L) (by omega)
      exact ⟨m, List.mem_cons_of_mem _ hm, h1⟩
/-- a message that may be -/
def pv_wf (m : pv_Msg) : Prop := mln m < 4 ∧ mrq m < 4 ∧ mnm m ≤ 3 ∧
  ((mkd m ≤ 4 ∧ mto m = 4 ∧ mnm m = 0) ∨ ((mkd m = 5 ∨ mkd m = 6) ∧ mto m < 4 ∧ mnm m = 0) ∨ (mkd m = 7 ∧ mto m < 4 ∧ mto m ≠ mrq m ∧ mnm m = 0) ∨ (mkd m = 8 ∧ mto m = mrq m ∧ mnm m = 0) ∨ (mkd m = 9 ∧ (mto m = mrq m ∨ (mto m = 4 ∧ mnm m = 0))) ∨ ((mkd m = 10 ∨ mkd m = 11) ∧ mto m = mrq m ∧ mnm m = 0))
def pv_ord (m : pv_Msg) : Prop := 5 ≤ mkd m ∧ mkd m ≤ 8
/-- no FORWARD or DROP waits behind a LEFT to the same core of the same line -/
def pv_rl (m n : pv_Msg) : Prop := ¬ (mkd m = 8 ∧ 5 ≤ mkd n ∧ mkd n ≤ 7 ∧ mln m = mln n ∧ mto m = mto n)
theorem pv_cn_13 {a d : Nat} : ∀ {L : List pv_Msg}, (∀ m ∈ L, pv_wf m) → pv_cn 13 a d L ≤ 3 * pv_cn 10 a d L
  | [], _ => by simp [pv_cn]
  | x :: L, h => by
    have h1 := pv_cn_13 (a := a) (d := d) (L := L) (fun m hm => h m (List.mem_cons_of_mem _ hm))
    have h2 := (h x List.mem_cons_self).2.2.1
    rw [pv_cn_cons, pv_cn_cons]
    have h3 : pv_b1 13 a d x ≤ 3 * pv_b1 10 a d x := by
      simp only [pv_b1, pv_bk]
      split
      · split <;> omega
      · omega
    omega
def pv_LI (a : Nat) (v : pv_V) : Prop := pv_li (fun c => v.2.2 0 c a) (fun j d => pv_cn j a d v.1) (fun c => v.2.2 1 c a) (fun c => v.2.2 2 c a) (v.2.2 5 0 a) (v.2.2 6 0 a) (v.2.2 7 0 a)
/-- a core's one operation -/
def pv_CO (v : pv_V) (c : Nat) : Prop := v.2.2 3 c 0 ≤ 1 ∧ v.2.2 4 c 0 ≤ 2 ∧ (∀ l, l < 4 → 4 ≤ v.2.2 0 c l → v.2.2 0 c l ≤ 8 → v.2.2 3 c 0 = 1) ∧
  (∀ l l', l < 4 → l' < 4 → 4 ≤ v.2.2 0 c l → v.2.2 0 c l ≤ 8 → 4 ≤ v.2.2 0 c l' → v.2.2 0 c l' ≤ 8 → l = l') ∧ (∀ l, l < 4 → v.2.2 0 c l = 4 → v.2.2 4 c 0 = 0)
def pv_Inv (v : pv_V) : Prop := (∀ m ∈ v.1, pv_wf m) ∧ v.1.Pairwise pv_rl ∧ (∀ a, a < 4 → pv_LI a v) ∧ ∀ c, c < 4 → pv_CO v c
/-- two lines that look alike -/
theorem pv_LI_same {a : Nat} {v w : pv_V} (h : pv_LI a v) (h0 : ∀ c, w.2.2 0 c a = v.2.2 0 c a) (h1 : ∀ c, w.2.2 1 c a = v.2.2 1 c a) (h2 : ∀ c, w.2.2 2 c a = v.2.2 2 c a) (h5 : w.2.2 5 0 a = v.2.2 5 0 a) (h6 : w.2.2 6 0 a = v.2.2 6 0 a) (h7 : w.2.2 7 0 a = v.2.2 7 0 a) (hk : ∀ j d, pv_cn j a d w.1 = pv_cn j a d v.1) : pv_LI a w := by
  unfold pv_LI at *
  rw [show (fun c => w.2.2 0 c a) = (fun c => v.2.2 0 c a) from funext h0, show (fun c => w.2.2 1 c a) = (fun c => v.2.2 1 c a) from funext h1, show (fun c => w.2.2 2 c a) = (fun c => v.2.2 2 c a) from funext h2, h5, h6, h7, show (fun j d => pv_cn j a d w.1) = (fun j d => pv_cn j a d v.1) from funext fun j => funext fun d => hk j d]
  exact h
/-! How many messages can wait -/
theorem pv_lc_tot {st : Nat} {k : Nat → Nat} {got need o s : Nat} (h : pv_lc st k got need o s) (h13 : k 13 ≤ 3 * k 10) : k 0 + k 1 + k 2 + k 3 + k 6 + k 7 + k 10 + k 11 + k 9 + k 12 ≤ 1 + 3 * pv_xv st k o := by
  have h12 := pv_lc_le h
  rcases (show st = 0 ∨ st = 1 ∨ st = 2 ∨ st = 3 ∨ st = 4 ∨ st = 5 ∨ st = 6 ∨ st = 7 ∨ st = 8 ∨ st = 9 ∨ st = 10 ∨ st = 11 ∨ st = 12 by omega) with rfl | rfl | rfl | rfl | rfl | rfl | rfl | rfl | rfl | rfl | rfl | rfl | rfl <;> simp only [pv_lc, pv_xv] at h ⊢ <;> omega
def pv_kk (k : Nat → Nat → Nat) (c : Nat) : Nat := k 0 c + k 1 c + k 2 c + k 3 c + k 6 c + k 7 c + k 10 c + k 11 c + k 9 c + k 12 c
theorem pv_li_tot {st : Nat → Nat} {k : Nat → Nat → Nat} {got need : Nat → Nat} {kp ow sh : Nat} (h : pv_li st k got need kp ow sh) : pv_s4 (pv_kk k) + k 10 4 ≤ 7 := by
  obtain ⟨hL, hX, hF, hkp, how, hsh, hz, h13⟩ := h
  have t0 := pv_lc_tot (hL 0 (by omega)) (h13 0)
  have t1 := pv_lc_tot (hL 1 (by omega)) (h13 1)
  have t2 := pv_lc_tot (hL 2 (by omega)) (h13 2)
  have t3 := pv_lc_tot (hL 3 (by omega)) (h13 3)
  simp only [pv_s4, pv_kk] at *
  omega
def pv_tl (a : Nat) (L : List pv_Msg) : Nat := pv_s4 (pv_kk (fun j d => pv_cn j a d L)) + pv_cn 10 a 4 L
theorem pv_tl_cons (a : Nat) (m : pv_Msg) (L : List pv_Msg) : pv_tl a (m :: L) = pv_tl a [m] + pv_tl a L := by
  simp only [pv_tl, pv_s4, pv_kk, pv_cn_cons, pv_cn_nil]
  omega
theorem pv_tl_one {m : pv_Msg} (h : pv_wf m) (a : Nat) : pv_tl a [m] = if mln m = a then 1 else 0 := by
  simp only [pv_tl, pv_s4, pv_kk, pv_cn_one, pv_b1]
  split
  · obtain ⟨h1, h2, h3, h4⟩ := h
    generalize mkd m = kd at *
    generalize mto m = to at *
    generalize mrq m = rq at *
    generalize mnm m = n at *
    rcases h4 with ⟨h4, rfl, h5⟩ | ⟨h4, h6, h5⟩ | ⟨rfl, h6, h7, h5⟩ | ⟨rfl, rfl, h5⟩ | ⟨rfl, rfl | ⟨rfl, h5⟩⟩ | ⟨h4, rfl, h5⟩
    · rcases (show kd = 0 ∨ kd = 1 ∨ kd = 2 ∨ kd = 3 ∨ kd = 4 by omega) with rfl | rfl | rfl | rfl | rfl <;> rcases (show rq = 0 ∨ rq = 1 ∨ rq = 2 ∨ rq = 3 by omega) with rfl | rfl | rfl | rfl <;> simp [pv_bk]
    · rcases h4 with rfl | rfl <;> rcases (show rq = 0 ∨ rq = 1 ∨ rq = 2 ∨ rq = 3 by omega) with rfl | rfl | rfl | rfl <;> simp [pv_bk]
    · rcases (show rq = 0 ∨ rq = 1 ∨ rq = 2 ∨ rq = 3 by omega) with rfl | rfl | rfl | rfl <;> simp [pv_bk]
    · rcases (show to = 0 ∨ to = 1 ∨ to = 2 ∨ to = 3 by omega) with rfl | rfl | rfl | rfl <;> simp [pv_bk]
    · rcases (show to = 0 ∨ to = 1 ∨ to = 2 ∨ to = 3 by omega) with rfl | rfl | rfl | rfl <;> simp [pv_bk]
    · simp [pv_bk]
    · rcases h4 with rfl | rfl <;> rcases (show to = 0 ∨ to = 1 ∨ to = 2 ∨ to = 3 by omega) with rfl | rfl | rfl | rfl <;> simp [pv_bk]
  · simp
theorem pv_len : ∀ {L : List pv_Msg}, (∀ m ∈ L, pv_wf m) → L.length = pv_tl 0 L + pv_tl 1 L + pv_tl 2 L + pv_tl 3 L
  | [], _ => by simp [pv_tl, pv_s4, pv_kk, pv_cn]
  | x :: L, h => by
    have h1 := pv_len (L := L) (fun m hm => h m (List.mem_cons_of_mem _ hm))
    have h2 := h x List.mem_cons_self
    have h3 := h2.1
    rw [List.length_cons, h1, pv_tl_cons 0, pv_tl_cons 1, pv_tl_cons 2, pv_tl_cons 3, pv_tl_one h2, pv_tl_one h2, pv_tl_one h2, pv_tl_one h2]
    rcases (show mln x = 0 ∨ mln x = 1 ∨ mln x = 2 ∨ mln x = 3 by omega) with e | e | e | e <;> rw [e] <;> simp <;> omega
theorem pv_Inv_len {v : pv_V} (h : pv_Inv v) : v.1.length ≤ 28 := by
  have t0 := pv_li_tot (h.2.2.1 0 (by omega))
  have t1 := pv_li_tot (h.2.2.1 1 (by omega))
  have t2 := pv_li_tot (h.2.2.1 2 (by omega))
  have t3 := pv_li_tot (h.2.2.1 3 (by omega))
  have := pv_len h.1
  simp only [pv_tl] at this
  omega
/-! Steps of the abstract value, and that they keep the invariant -/
theorem pv_wf_step {L N : List pv_Msg} {k : Nat} (h : ∀ m ∈ L, pv_wf m) (hN : ∀ m ∈ N, pv_wf m) : ∀ m ∈ L.eraseIdx k ++ N, pv_wf m := by
  intro m hm
  rcases List.mem_append.mp hm with h1 | h1
  · exact h m (List.mem_of_mem_eraseIdx h1)
  · exact hN m h1
theorem pv_rl_free : ∀ {N : List pv_Msg}, (∀ n ∈ N, mkd n ≠ 8) → N.Pairwise pv_rl
  | [], _ => List.Pairwise.nil
  | x :: N, h => List.Pairwise.cons (fun y _ => fun z => h x List.mem_cons_self z.1) (pv_rl_free (fun n hn => h n (List.mem_cons_of_mem _ hn)))
theorem pv_rl_step {L N : List pv_Msg} {k : Nat} (h : L.Pairwise pv_rl) (hN : N.Pairwise pv_rl) (hx : ∀ n ∈ N, 5 ≤ mkd n → mkd n ≤ 7 → pv_cn 3 (mln n) (mto n) L = 0) : (L.eraseIdx k ++ N).Pairwise pv_rl := by
  refine List.pairwise_append.mpr ⟨h.sublist (List.eraseIdx_sublist ..), hN, fun x hx' y hy => ?_⟩
  rintro ⟨e1, e2, e3, e4, e5⟩
  have h0 := hx y hy e2 e3
  have h1 := pv_cn_in (j := 3) (a := mln y) (d := mto y) (List.mem_of_mem_eraseIdx hx')
  have h2 : pv_b1 3 (mln y) (mto y) x = 1 := by simp [pv_b1, pv_bk, e1, e4, e5]
  omega
theorem pv_cn_step {L N : List pv_Msg} {k : Nat} {m : pv_Msg} (h : L[k]? = some m) (j a d : Nat) : pv_cn j a d (L.eraseIdx k ++ N) + pv_b1 j a d m = pv_cn j a d L + pv_cn j a d N := by
  rw [pv_cn_app]
  have := pv_cn_del j a d L k m h
  omega
theorem pv_b1_is (j a d kd s t r n : Nat) (x : Int32) : pv_b1 j a d (kd, a, s, t, r, n, x) = pv_bk j d kd t r n := by
  simp [pv_b1, mln, mkd, mto, mrq, mnm]
theorem pv_b1_ne (j d kd s t r n : Nat) (x : Int32) {a b : Nat} (h : a ≠ b) : pv_b1 j b d (kd, a, s, t, r, n, x) = 0 := by
  simp [pv_b1, mln, h]
theorem pv_b1_line {j d a b : Nat} {m : pv_Msg} (h : mln m = a) (hb : b ≠ a) : pv_b1 j b d m = 0 := by
  unfold pv_b1
  rw [h, if_neg (Ne.symm hb)]
/-- a core's operation, when one state changes -/
theorem pv_CO_st {v w : pv_V} {c c0 a : Nat} {s' : Nat} (h : pv_CO v c) (h3 : ∀ d, w.2.2 3 d 0 = v.2.2 3 d 0) (h4 : ∀ d, w.2.2 4 d 0 = v.2.2 4 d 0) (h0 : ∀ d l, w.2.2 0 d l = if d = c0 ∧ l = a then s' else v.2.2 0 d l)
    (hs : 4 ≤ s' → s' ≤ 8 → 4 ≤ v.2.2 0 c0 a ∧ v.2.2 0 c0 a ≤ 8 ∧ (s' = 4 → v.2.2 0 c0 a = 4)) : pv_CO w c := by
  obtain ⟨q1, q2, q3, q4, q5⟩ := h
  refine ⟨by rw [h3]; exact q1, by rw [h4]; exact q2, fun l hl e1 e2 => ?_, fun l l' hl hl' e1 e2 e3 e4 => ?_, fun l hl e1 => ?_⟩
  · rw [h0] at e1 e2
    rw [h3]
    split at e1
    · next z => obtain ⟨rfl, rfl⟩ := z; rw [if_pos ⟨rfl, rfl⟩] at e2; have := hs e1 e2; exact q3 l hl this.1 this.2.1
    · next z => rw [if_neg z] at e2; exact q3 l hl e1 e2
  · rw [h0] at e1 e2 e3 e4
    have g1 : 4 ≤ v.2.2 0 c l ∧ v.2.2 0 c l ≤ 8 := by
      split at e1
      · next z => obtain ⟨rfl, rfl⟩ := z; rw [if_pos ⟨rfl, rfl⟩] at e2; have := hs e1 e2; exact ⟨this.1, this.2.1⟩
      · next z => rw [if_neg z] at e2; exact ⟨e1, e2⟩
    have g2 : 4 ≤ v.2.2 0 c l' ∧ v.2.2 0 c l' ≤ 8 := by
      split at e3
      · next z => obtain ⟨rfl, rfl⟩ := z; rw [if_pos ⟨rfl, rfl⟩] at e4; have := hs e3 e4; exact ⟨this.1, this.2.1⟩
      · next z => rw [if_neg z] at e4; exact ⟨e3, e4⟩
    exact q4 l l' hl hl' g1.1 g1.2 g2.1 g2.2
  · rw [h0] at e1
    rw [h4]
    split at e1
    · next z => obtain ⟨rfl, rfl⟩ := z; exact q5 l hl ((hs (by omega) (by omega)).2.2 e1)
    · next z => exact q5 l hl e1
/-- an operation is done: the one state of 4 .. 8 goes to 1, 2 or 3 -/
theorem pv_CO_fin {v w : pv_V} {c c0 a : Nat} {s' : Nat} (h : pv_CO v c) (ha : a < 4) (h3 : ∀ d, w.2.2 3 d 0 = if d = c0 then 0 else v.2.2 3 d 0) (h4 : ∀ d, w.2.2 4 d 0 = v.2.2 4 d 0) (h0 : ∀ d l, w.2.2 0 d l = if d = c0 ∧ l = a then s' else v.2.2 0 d l)
    (hs : s' ≤ 3) (hv : v.2.2 3 c0 0 = 0 ∨ (4 ≤ v.2.2 0 c0 a ∧ v.2.2 0 c0 a ≤ 8)) : pv_CO w c := by
  obtain ⟨q1, q2, q3, q4, q5⟩ := h
  by_cases hc : c = c0
  · subst hc
    have no : ∀ l, l < 4 → ¬ (4 ≤ w.2.2 0 c l ∧ w.2.2 0 c l ≤ 8) := by
      intro l hl e
      rw [h0] at e
      by_cases z : l = a
      · subst z; rw [if_pos ⟨rfl, rfl⟩] at e; omega
      · rw [if_neg (fun q => z q.2)] at e
        rcases hv with hv | hv
        · have := q3 l hl e.1 e.2; omega
        · exact z (q4 l a hl ha e.1 e.2 hv.1 hv.2)
    refine ⟨by rw [h3, if_pos rfl]; omega, by rw [h4]; exact q2, fun l hl e1 e2 => absurd ⟨e1, e2⟩ (no l hl), fun l l' hl hl' e1 e2 e3 e4 => absurd ⟨e1, e2⟩ (no l hl), fun l hl e1 => absurd (show 4 ≤ w.2.2 0 c l ∧ w.2.2 0 c l ≤ 8 by omega) (no l hl)⟩
  · have e0 : ∀ l, w.2.2 0 c l = v.2.2 0 c l := fun l => by rw [h0, if_neg (fun q => hc q.1)]
    refine ⟨by rw [h3, if_neg hc]; exact q1, by rw [h4]; exact q2, fun l hl => ?_, fun l l' hl hl' => ?_, fun l hl => ?_⟩
    · rw [e0, h3, if_neg hc]; exact q3 l hl
    · rw [e0, e0]; exact q4 l l' hl hl'
    · rw [e0, h4]; exact q5 l hl
/-- an operation begins -/
theorem pv_CO_go {v w : pv_V} {c c0 a o : Nat} {s' : Nat} (h : pv_CO v c) (h3 : ∀ d, w.2.2 3 d 0 = if d = c0 then 1 else v.2.2 3 d 0) (h4 : ∀ d, w.2.2 4 d 0 = if d = c0 then o else v.2.2 4 d 0) (h0 : ∀ d l, w.2.2 0 d l = if d = c0 ∧ l = a then s' else v.2.2 0 d l)
    (ho : o ≤ 2) (hs : s' = 4 → o = 0) (hv : v.2.2 3 c0 0 = 0) : pv_CO w c := by
  obtain ⟨q1, q2, q3, q4, q5⟩ := h
  by_cases hc : c = c0
  · subst hc
    have no : ∀ l, l < 4 → l ≠ a → ¬ (4 ≤ w.2.2 0 c l ∧ w.2.2 0 c l ≤ 8) := by
      intro l hl z e
      rw [h0, if_neg (fun q => z q.2)] at e
      have := q3 l hl e.1 e.2
      omega
    refine ⟨by rw [h3, if_pos rfl]; omega, by rw [h4, if_pos rfl]; exact ho, fun l hl e1 e2 => by rw [h3, if_pos rfl], fun l l' hl hl' e1 e2 e3 e4 => ?_, fun l hl e1 => ?_⟩
    · by_cases z : l = a
      · by_cases z' : l' = a
        · rw [z, z']
        · exact absurd ⟨e3, e4⟩ (no l' hl' z')
      · exact absurd ⟨e1, e2⟩ (no l hl z)
    · by_cases z : l = a
      · subst z; rw [h0, if_pos ⟨rfl, rfl⟩] at e1; rw [h4, if_pos rfl]; exact hs e1
      · exact absurd (show 4 ≤ w.2.2 0 c l ∧ w.2.2 0 c l ≤ 8 by omega) (no l hl z)
  · have e0 : ∀ l, w.2.2 0 c l = v.2.2 0 c l := fun l => by rw [h0, if_neg (fun q => hc q.1)]
    refine ⟨by rw [h3, if_neg hc]; exact q1, by rw [h4, if_neg hc]; exact q2, fun l hl => ?_, fun l l' hl hl' => ?_, fun l hl => ?_⟩
    · rw [e0, h3, if_neg hc]; exact q3 l hl
    · rw [e0, e0]; exact q4 l l' hl hl'
    · rw [e0, h4, if_neg hc]; exact q5 l hl
/-- the operation of a core that begins and is done at once, or is only set -/
theorem pv_CO_op {v w : pv_V} {c c0 a o : Nat} {s' : Nat} (h : pv_CO v c) (h3 : ∀ d, w.2.2 3 d 0 = v.2.2 3 d 0) (h4 : ∀ d, w.2.2 4 d 0 = if d = c0 then o else v.2.2 4 d 0) (h0 : ∀ d l, w.2.2 0 d l = if d = c0 ∧ l = a then s' else v.2.2 0 d l)
    (ho : o ≤ 2) (hs : s' ≤ 3) (hv : v.2.2 3 c0 0 = 0) : pv_CO w c := by
  obtain ⟨q1, q2, q3, q4, q5⟩ := h
  by_cases hc : c = c0
  · subst hc
    have no : ∀ l, l < 4 → ¬ (4 ≤ w.2.2 0 c l ∧ w.2.2 0 c l ≤ 8) := by
      intro l hl e
      rw [h0] at e
      by_cases z : l = a
      · subst z; rw [if_pos ⟨rfl, rfl⟩] at e; omega
      · rw [if_neg (fun q => z q.2)] at e
        have := q3 l hl e.1 e.2
        omega
    refine ⟨by rw [h3]; exact q1, by rw [h4, if_pos rfl]; exact ho, fun l hl e1 e2 => absurd ⟨e1, e2⟩ (no l hl), fun l l' hl hl' e1 e2 e3 e4 => absurd ⟨e1, e2⟩ (no l hl), fun l hl e1 => absurd (show 4 ≤ w.2.2 0 c l ∧ w.2.2 0 c l ≤ 8 by omega) (no l hl)⟩
  · have e0 : ∀ l, w.2.2 0 c l = v.2.2 0 c l := fun l => by rw [h0, if_neg (fun q => hc q.1)]
    refine ⟨by rw [h3]; exact q1, by rw [h4, if_neg hc]; exact q2, fun l hl => ?_, fun l l' hl hl' => ?_, fun l hl => ?_⟩
    · rw [e0, h3]; exact q3 l hl
    · rw [e0, e0]; exact q4 l l' hl hl'
    · rw [e0, h4, if_neg hc]; exact q5 l hl
theorem pv_Inv_mk {v w : pv_V} {a : Nat} (h : pv_Inv v) (hwf : ∀ m ∈ w.1, pv_wf m) (hrl : w.1.Pairwise pv_rl) (ha : pv_LI a w) (hN : ∀ t c l, l ≠ a → t ≠ 3 → t ≠ 4 → w.2.2 t c l = v.2.2 t c l) (hk : ∀ b, b ≠ a → ∀ j d, pv_cn j b d w.1 = pv_cn j b d v.1) (hco : ∀ c, c < 4 → pv_CO w c) : pv_Inv w := by
  refine ⟨hwf, hrl, fun b hb => ?_, hco⟩
  by_cases z : b = a
  · subst z; exact ha
  · exact pv_LI_same (h.2.2.1 b hb) (fun c => hN 0 c b z (by omega) (by omega)) (fun c => hN 1 c b z (by omega) (by omega)) (fun c => hN 2 c b z (by omega) (by omega)) (hN 5 0 b z (by omega) (by omega)) (hN 6 0 b z (by omega) (by omega)) (hN 7 0 b z (by omega) (by omega)) (hk b z)
