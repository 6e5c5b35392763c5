/-! The protocol of one line, by counts of its messages: pure arithmetic. -/
/-- what a message (kind, receiver, requester, number) adds to counter j of core d:
0 READ 1 WRITE 2 LEAVE_* (requester); 3 LEFT 4 FORWARD_READ 5 FORWARD_WRITE (receiver); 6 FORWARD_READ 7 FORWARD_WRITE (requester); 8 DROP (receiver) 9 DROP (requester); 10 DATA 11 SOLE_DATA 12 DROPPED (receiver); 13 the numbers of DATA (receiver) -/
def pv_bk (j d kd to rq n : Nat) : Nat := match j with
  | 0 => if kd = 0 ∧ rq = d then 1 else 0
  | 1 => if kd = 1 ∧ rq = d then 1 else 0
  | 2 => if (kd = 2 ∨ kd = 3 ∨ kd = 4) ∧ rq = d then 1 else 0
  | 3 => if kd = 8 ∧ to = d then 1 else 0
  | 4 => if kd = 5 ∧ to = d then 1 else 0
  | 5 => if kd = 6 ∧ to = d then 1 else 0
  | 6 => if kd = 5 ∧ rq = d then 1 else 0
  | 7 => if kd = 6 ∧ rq = d then 1 else 0
  | 8 => if kd = 7 ∧ to = d then 1 else 0
  | 9 => if kd = 7 ∧ rq = d then 1 else 0
  | 10 => if kd = 9 ∧ to = d then 1 else 0
  | 11 => if kd = 10 ∧ to = d then 1 else 0
  | 12 => if kd = 11 ∧ to = d then 1 else 0
  | 13 => if kd = 9 ∧ to = d then n else 0
  | _ => 0
/-- one core: its state, its counters, what it got and needs, whether it is the owner (o), a sharer (s) -/
def pv_lc (st : Nat) (k : Nat → Nat) (got need o s : Nat) : Prop := match st with
  | 0 => k 0 = 0 ∧ k 1 = 0 ∧ k 2 = 0 ∧ k 3 = 0 ∧ k 4 = 0 ∧ k 5 = 0 ∧ k 6 = 0 ∧ k 7 = 0 ∧ k 8 = 0 ∧ k 9 = 0 ∧ k 10 = 0 ∧ k 11 = 0 ∧ k 12 = 0 ∧ o = 0 ∧ s = 0
  | 1 => k 0 = 0 ∧ k 1 = 0 ∧ k 2 = 0 ∧ k 3 = 0 ∧ k 4 = 0 ∧ k 5 = 0 ∧ k 6 = 0 ∧ k 7 = 0 ∧ k 9 = 0 ∧ k 10 = 0 ∧ k 11 = 0 ∧ k 12 = 0 ∧ o = 0 ∧ s + k 8 ≤ 1
  | 2 => k 0 = 0 ∧ k 1 = 0 ∧ k 2 = 0 ∧ k 3 = 0 ∧ k 4 + k 5 + o = 1 ∧ k 6 = 0 ∧ k 7 = 0 ∧ k 8 = 0 ∧ k 9 = 0 ∧ k 10 = 0 ∧ k 11 = 0 ∧ k 12 = 0 ∧ s ≤ k 4
  | 3 => k 0 = 0 ∧ k 1 = 0 ∧ k 2 = 0 ∧ k 3 = 0 ∧ k 4 + k 5 + o = 1 ∧ k 6 = 0 ∧ k 7 = 0 ∧ k 8 = 0 ∧ k 9 = 0 ∧ k 10 = 0 ∧ k 11 = 0 ∧ k 12 = 0 ∧ s ≤ k 4
  | 4 => k 0 + k 10 + k 11 + k 6 = 1 ∧ k 1 = 0 ∧ k 2 = 0 ∧ k 3 = 0 ∧ k 4 + k 5 + o = k 11 ∧ k 7 = 0 ∧ k 8 ≤ k 10 ∧ k 9 = 0 ∧ k 12 = 0 ∧ s + k 8 ≤ 1 ∧ s ≤ k 4 + k 10 + k 6
  | 5 => k 1 + k 10 + k 7 = 1 ∧ k 0 = 0 ∧ k 2 = 0 ∧ k 3 = 0 ∧ k 4 + k 5 + o + k 1 = 1 ∧ k 6 = 0 ∧ k 8 = 0 ∧ k 11 = 0 ∧ s ≤ k 4 ∧ k 13 = got + k 9 + k 12 ∧ need = 0
  | 6 => k 0 = 0 ∧ k 1 = 0 ∧ k 2 = 0 ∧ k 3 = 0 ∧ k 4 + k 5 + o = 1 ∧ k 6 = 0 ∧ k 7 = 0 ∧ k 8 = 0 ∧ k 10 = 0 ∧ k 11 = 0 ∧ s ≤ k 4 ∧ need = got + k 9 + k 12 ∧ 1 ≤ k 9 + k 12 ∧ need ≤ 3
  | 7 => k 1 + k 10 + k 7 = 1 ∧ k 0 = 0 ∧ k 2 = 0 ∧ k 3 = 0 ∧ k 4 + k 5 + o + k 1 = 1 ∧ k 6 = 0 ∧ k 8 ≤ 1 ∧ k 11 = 0 ∧ s ≤ k 4 + k 1 ∧ s + k 8 ≤ 1 + k 4 ∧ k 13 = got + k 9 + k 12 ∧ need = 0
  | 8 => k 0 = 0 ∧ k 1 = 0 ∧ k 2 = 0 ∧ k 3 = 0 ∧ k 4 + k 5 + o = 1 ∧ k 6 = 0 ∧ k 7 = 0 ∧ k 8 = 0 ∧ k 10 = 0 ∧ k 11 = 0 ∧ s ≤ k 4 ∧ need = got + k 9 + k 12 ∧ 1 ≤ k 9 + k 12 ∧ need ≤ 3
  | 9 => k 2 + k 3 = 1 ∧ k 0 = 0 ∧ k 1 = 0 ∧ 1 ≤ k 4 + k 5 + o + k 3 ∧ k 4 + k 5 + o ≤ 1 ∧ o + k 3 ≤ 1 ∧ k 6 = 0 ∧ k 7 = 0 ∧ k 8 = 0 ∧ k 9 = 0 ∧ k 10 = 0 ∧ k 11 = 0 ∧ k 12 = 0 ∧ s ≤ k 4 ∧ s + k 3 ≤ 1
  | 10 => k 2 + k 3 = 1 ∧ k 0 = 0 ∧ k 1 = 0 ∧ 1 ≤ k 4 + k 5 + o + k 3 ∧ k 4 + k 5 + o ≤ 1 ∧ o + k 3 ≤ 1 ∧ k 6 = 0 ∧ k 7 = 0 ∧ k 8 = 0 ∧ k 9 = 0 ∧ k 10 = 0 ∧ k 11 = 0 ∧ k 12 = 0 ∧ s ≤ k 4 ∧ s + k 3 ≤ 1
  | 11 => k 2 + k 3 = 1 ∧ k 0 = 0 ∧ k 1 = 0 ∧ k 4 = 0 ∧ k 5 = 0 ∧ o = 0 ∧ k 6 = 0 ∧ k 7 = 0 ∧ k 8 + s ≤ 1 ∧ s ≤ k 2 ∧ k 9 = 0 ∧ k 10 = 0 ∧ k 11 = 0 ∧ k 12 = 0
  | 12 => k 2 + k 3 = 1 ∧ k 0 = 0 ∧ k 1 = 0 ∧ k 4 = 0 ∧ k 5 = 0 ∧ o = 0 ∧ k 6 = 0 ∧ k 7 = 0 ∧ k 8 = 0 ∧ s = 0 ∧ k 9 = 0 ∧ k 10 = 0 ∧ k 11 = 0 ∧ k 12 = 0
  | _ => False
/-- does this core hold the token (the one copy that may be written), or is it on its way to it -/
def pv_xv (st : Nat) (k : Nat → Nat) (o : Nat) : Nat := match st with
  | 2 => 1
  | 3 => 1
  | 4 => k 11
  | 5 => k 10
  | 6 => 1
  | 7 => k 10
  | 8 => 1
  | 9 => o + k 4 + k 5
  | 10 => o + k 4 + k 5
  | _ => 0
def pv_oc (kp ow c : Nat) : Nat := if kp = 2 ∧ ow = c then 1 else 0
def pv_sb (sh c : Nat) : Nat := sh / 2 ^ c % 2
def pv_s4 (f : Nat → Nat) : Nat := f 0 + f 1 + f 2 + f 3
def pv_k1 (kp : Nat) : Nat := if kp ≤ 1 then 1 else 0
def pv_k3 (kp : Nat) : Nat := if kp = 3 then 1 else 0
def pv_li (st : Nat → Nat) (k : Nat → Nat → Nat) (got need : Nat → Nat) (kp ow sh : Nat) : Prop :=
  (∀ c, c < 4 → pv_lc (st c) (fun j => k j c) (got c) (need c) (pv_oc kp ow c) (pv_sb sh c)) ∧
  pv_s4 (fun c => pv_xv (st c) (fun j => k j c) (pv_oc kp ow c)) + pv_k1 kp + k 10 4 = 1 ∧
  pv_s4 (fun c => k 4 c) + k 10 4 = pv_k3 kp ∧ kp ≤ 3 ∧ ow < 4 ∧ sh < 16 ∧ (kp = 0 ∨ kp = 2 → sh = 0) ∧ (∀ c, k 13 c ≤ 3 * k 10 c)
theorem pv_s4_0 {f g : Nat → Nat} (h : ∀ d, d < 4 → g d = f d) : pv_s4 g = pv_s4 f := by
  simp only [pv_s4, h 0 (by omega), h 1 (by omega), h 2 (by omega), h 3 (by omega)]
theorem pv_s4_1 {f g : Nat → Nat} {c : Nat} (hc : c < 4) (h : ∀ d, d < 4 → d ≠ c → g d = f d) : pv_s4 g + f c = pv_s4 f + g c := by
  have h0 := h 0 (by omega)
  have h1 := h 1 (by omega)
  have h2 := h 2 (by omega)
  have h3 := h 3 (by omega)
  rcases (show c = 0 ∨ c = 1 ∨ c = 2 ∨ c = 3 by omega) with rfl | rfl | rfl | rfl <;> simp only [pv_s4] <;> simp at h0 h1 h2 h3 <;> omega
theorem pv_s4_2 {f g : Nat → Nat} {c r : Nat} (hc : c < 4) (hr : r < 4) (hcr : c ≠ r) (h : ∀ d, d < 4 → d ≠ c → d ≠ r → g d = f d) : pv_s4 g + f c + f r = pv_s4 f + g c + g r := by
  have h0 := h 0 (by omega)
  have h1 := h 1 (by omega)
  have h2 := h 2 (by omega)
  have h3 := h 3 (by omega)
  rcases (show c = 0 ∨ c = 1 ∨ c = 2 ∨ c = 3 by omega) with rfl | rfl | rfl | rfl <;> rcases (show r = 0 ∨ r = 1 ∨ r = 2 ∨ r = 3 by omega) with rfl | rfl | rfl | rfl <;> simp only [pv_s4] <;> simp at hcr h0 h1 h2 h3 <;> omega
theorem pv_s4_le {f : Nat → Nat} {c : Nat} (hc : c < 4) : f c ≤ pv_s4 f := by
  rcases (show c = 0 ∨ c = 1 ∨ c = 2 ∨ c = 3 by omega) with rfl | rfl | rfl | rfl <;> simp only [pv_s4] <;> omega
theorem pv_s4_le2 {f : Nat → Nat} {c r : Nat} (hc : c < 4) (hr : r < 4) (hcr : c ≠ r) : f c + f r ≤ pv_s4 f := by
  rcases (show c = 0 ∨ c = 1 ∨ c = 2 ∨ c = 3 by omega) with rfl | rfl | rfl | rfl <;> rcases (show r = 0 ∨ r = 1 ∨ r = 2 ∨ r = 3 by omega) with rfl | rfl | rfl | rfl <;> simp only [pv_s4] <;> first | omega | exact absurd rfl hcr
theorem pv_lc_congr {st : Nat} {k k' : Nat → Nat} {got need o s : Nat} (h : ∀ j, k' j = k j) (hl : pv_lc st k got need o s) : pv_lc st k' got need o s := by
  have e : k' = k := funext h
  rw [e]; exact hl
theorem pv_lc_le {st : Nat} {k : Nat → Nat} {got need o s : Nat} (h : pv_lc st k got need o s) : st ≤ 12 := by
  unfold pv_lc at h
  split at h <;> first | omega | exact h.elim
/-- what the counters say of the state -/
theorem pv_lc_rd {st : Nat} {k : Nat → Nat} {got need o s : Nat} (h : pv_lc st k got need o s) (hk : 1 ≤ k 0) : st = 4 := by
  unfold pv_lc at h
  split at h <;> first | omega | exact h.elim
theorem pv_lc_wr {st : Nat} {k : Nat → Nat} {got need o s : Nat} (h : pv_lc st k got need o s) (hk : 1 ≤ k 1) : st = 5 ∨ st = 7 := by
  unfold pv_lc at h
  split at h <;> first | omega | exact h.elim
theorem pv_lc_lv {st : Nat} {k : Nat → Nat} {got need o s : Nat} (h : pv_lc st k got need o s) (hk : 1 ≤ k 2) : st = 9 ∨ st = 10 ∨ st = 11 ∨ st = 12 := by
  unfold pv_lc at h
  split at h <;> first | omega | exact h.elim
theorem pv_lc_lf {st : Nat} {k : Nat → Nat} {got need o s : Nat} (h : pv_lc st k got need o s) (hk : 1 ≤ k 3) : st = 9 ∨ st = 10 ∨ st = 11 ∨ st = 12 := by
  unfold pv_lc at h
  split at h <;> first | omega | exact h.elim
theorem pv_lc_frg {st : Nat} {k : Nat → Nat} {got need o s : Nat} (h : pv_lc st k got need o s) (hk : 1 ≤ k 6) : st = 4 := by
  unfold pv_lc at h
  split at h <;> first | omega | exact h.elim
theorem pv_lc_fwg {st : Nat} {k : Nat → Nat} {got need o s : Nat} (h : pv_lc st k got need o s) (hk : 1 ≤ k 7) : st = 5 ∨ st = 7 := by
  unfold pv_lc at h
  split at h <;> first | omega | exact h.elim
/-- a FORWARD that is taken (not stalled) finds a whole copy -/
theorem pv_lc_fq {st : Nat} {k : Nat → Nat} {got need o s : Nat} (h : pv_lc st k got need o s) (hk : 1 ≤ k 4 + k 5) (hs : ¬ (4 ≤ st ∧ st ≤ 8)) : st = 2 ∨ st = 3 ∨ st = 9 ∨ st = 10 := by
  unfold pv_lc at h
  split at h <;> first | omega | exact h.elim
/-- a DROP that is taken finds a shared copy -/
theorem pv_lc_dq {st : Nat} {k : Nat → Nat} {got need o s : Nat} (h : pv_lc st k got need o s) (hk : 1 ≤ k 8) (hs : st ≠ 4) : st = 1 ∨ st = 7 ∨ st = 11 := by
  unfold pv_lc at h
  split at h <;> first | omega | exact h.elim
theorem pv_lc_da {st : Nat} {k : Nat → Nat} {got need o s : Nat} (h : pv_lc st k got need o s) (hk : 1 ≤ k 10) : st = 4 ∨ st = 5 ∨ st = 7 := by
  unfold pv_lc at h
  split at h <;> first | omega | exact h.elim
theorem pv_lc_so {st : Nat} {k : Nat → Nat} {got need o s : Nat} (h : pv_lc st k got need o s) (hk : 1 ≤ k 11) : st = 4 := by
  unfold pv_lc at h
  split at h <;> first | omega | exact h.elim
theorem pv_lc_ack {st : Nat} {k : Nat → Nat} {got need o s : Nat} (h : pv_lc st k got need o s) (hk : 1 ≤ k 9 + k 12) (h13 : k 13 ≤ 3 * k 10) : ((st = 5 ∨ st = 7) ∧ 1 ≤ k 10) ∨ st = 6 ∨ st = 8 := by
  unfold pv_lc at h
  split at h <;> first | omega | exact h.elim
