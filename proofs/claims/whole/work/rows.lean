section
/-! The protocol of one line, by counts of its messages: pure arithmetic. -/
/-- what a message (kind, receiver, requester, number) adds to counter j of core d:
0 READ 1 WRITE 2 LEAVE_* (requester); 3 LEFT 4 FORWARD_READ 5 FORWARD_WRITE (receiver); 6 FORWARD_READ 7 FORWARD_WRITE (requester); 8 DROP (receiver) 9 DROP (requester); 10 DATA 11 SOLE_DATA 12 DROPPED (receiver); 13 the numbers of DATA (receiver) -/
def pv_bk (j d kd to rq n : Nat) : Nat := match j with
  | 0 => if kd = 0 ∧ rq = d then 1 else 0
  | 1 => if kd = 1 ∧ rq = d then 1 else 0
  | 2 => if (kd = 2 ∨ kd = 3 ∨ kd = 4) ∧ rq = d then 1 else 0
  | 3 => if kd = 8 ∧ to = d then 1 else 0
  | 4 => if kd = 5 ∧ to = d then 1 else 0
  | 5 => if kd = 6 ∧ to = d then 1 else 0
  | 6 => if kd = 5 ∧ rq = d then 1 else 0
  | 7 => if kd = 6 ∧ rq = d then 1 else 0
  | 8 => if kd = 7 ∧ to = d then 1 else 0
  | 9 => if kd = 7 ∧ rq = d then 1 else 0
  | 10 => if kd = 9 ∧ to = d then 1 else 0
  | 11 => if kd = 10 ∧ to = d then 1 else 0
  | 12 => if kd = 11 ∧ to = d then 1 else 0
  | 13 => if kd = 9 ∧ to = d then n else 0
  | _ => 0
/-- one core: its state, its counters, what it got and needs, whether it is the owner (o), a sharer (s) -/
def pv_lc (st : Nat) (k : Nat → Nat) (got need o s : Nat) : Prop := match st with
  | 0 => k 0 = 0 ∧ k 1 = 0 ∧ k 2 = 0 ∧ k 3 = 0 ∧ k 4 = 0 ∧ k 5 = 0 ∧ k 6 = 0 ∧ k 7 = 0 ∧ k 8 = 0 ∧ k 9 = 0 ∧ k 10 = 0 ∧ k 11 = 0 ∧ k 12 = 0 ∧ o = 0 ∧ s = 0
  | 1 => k 0 = 0 ∧ k 1 = 0 ∧ k 2 = 0 ∧ k 3 = 0 ∧ k 4 = 0 ∧ k 5 = 0 ∧ k 6 = 0 ∧ k 7 = 0 ∧ k 9 = 0 ∧ k 10 = 0 ∧ k 11 = 0 ∧ k 12 = 0 ∧ o = 0 ∧ s + k 8 ≤ 1
  | 2 => k 0 = 0 ∧ k 1 = 0 ∧ k 2 = 0 ∧ k 3 = 0 ∧ k 4 + k 5 + o = 1 ∧ k 6 = 0 ∧ k 7 = 0 ∧ k 8 = 0 ∧ k 9 = 0 ∧ k 10 = 0 ∧ k 11 = 0 ∧ k 12 = 0 ∧ s ≤ k 4
  | 3 => k 0 = 0 ∧ k 1 = 0 ∧ k 2 = 0 ∧ k 3 = 0 ∧ k 4 + k 5 + o = 1 ∧ k 6 = 0 ∧ k 7 = 0 ∧ k 8 = 0 ∧ k 9 = 0 ∧ k 10 = 0 ∧ k 11 = 0 ∧ k 12 = 0 ∧ s ≤ k 4
  | 4 => k 0 + k 10 + k 11 + k 6 = 1 ∧ k 1 = 0 ∧ k 2 = 0 ∧ k 3 = 0 ∧ k 4 + k 5 + o = k 11 ∧ k 7 = 0 ∧ k 8 ≤ k 10 ∧ k 9 = 0 ∧ k 12 = 0 ∧ s + k 8 ≤ 1 ∧ s ≤ k 4 + k 10 + k 6
  | 5 => k 1 + k 10 + k 7 = 1 ∧ k 0 = 0 ∧ k 2 = 0 ∧ k 3 = 0 ∧ k 4 + k 5 + o + k 1 = 1 ∧ k 6 = 0 ∧ k 8 = 0 ∧ k 11 = 0 ∧ s ≤ k 4 ∧ k 13 = got + k 9 + k 12 ∧ need = 0
  | 6 => k 0 = 0 ∧ k 1 = 0 ∧ k 2 = 0 ∧ k 3 = 0 ∧ k 4 + k 5 + o = 1 ∧ k 6 = 0 ∧ k 7 = 0 ∧ k 8 = 0 ∧ k 10 = 0 ∧ k 11 = 0 ∧ s ≤ k 4 ∧ need = got + k 9 + k 12 ∧ 1 ≤ k 9 + k 12 ∧ need ≤ 3
  | 7 => k 1 + k 10 + k 7 = 1 ∧ k 0 = 0 ∧ k 2 = 0 ∧ k 3 = 0 ∧ k 4 + k 5 + o + k 1 = 1 ∧ k 6 = 0 ∧ k 8 ≤ 1 ∧ k 11 = 0 ∧ s ≤ k 4 + k 1 ∧ s + k 8 ≤ 1 + k 4 ∧ k 13 = got + k 9 + k 12 ∧ need = 0
  | 8 => k 0 = 0 ∧ k 1 = 0 ∧ k 2 = 0 ∧ k 3 = 0 ∧ k 4 + k 5 + o = 1 ∧ k 6 = 0 ∧ k 7 = 0 ∧ k 8 = 0 ∧ k 10 = 0 ∧ k 11 = 0 ∧ s ≤ k 4 ∧ need = got + k 9 + k 12 ∧ 1 ≤ k 9 + k 12 ∧ need ≤ 3
  | 9 => k 2 + k 3 = 1 ∧ k 0 = 0 ∧ k 1 = 0 ∧ 1 ≤ k 4 + k 5 + o + k 3 ∧ k 4 + k 5 + o ≤ 1 ∧ o + k 3 ≤ 1 ∧ k 6 = 0 ∧ k 7 = 0 ∧ k 8 = 0 ∧ k 9 = 0 ∧ k 10 = 0 ∧ k 11 = 0 ∧ k 12 = 0 ∧ s ≤ k 4 ∧ s + k 3 ≤ 1
  | 10 => k 2 + k 3 = 1 ∧ k 0 = 0 ∧ k 1 = 0 ∧ 1 ≤ k 4 + k 5 + o + k 3 ∧ k 4 + k 5 + o ≤ 1 ∧ o + k 3 ≤ 1 ∧ k 6 = 0 ∧ k 7 = 0 ∧ k 8 = 0 ∧ k 9 = 0 ∧ k 10 = 0 ∧ k 11 = 0 ∧ k 12 = 0 ∧ s ≤ k 4 ∧ s + k 3 ≤ 1
  | 11 => k 2 + k 3 = 1 ∧ k 0 = 0 ∧ k 1 = 0 ∧ k 4 = 0 ∧ k 5 = 0 ∧ o = 0 ∧ k 6 = 0 ∧ k 7 = 0 ∧ k 8 + s ≤ 1 ∧ s ≤ k 2 ∧ k 9 = 0 ∧ k 10 = 0 ∧ k 11 = 0 ∧ k 12 = 0
  | 12 => k 2 + k 3 = 1 ∧ k 0 = 0 ∧ k 1 = 0 ∧ k 4 = 0 ∧ k 5 = 0 ∧ o = 0 ∧ k 6 = 0 ∧ k 7 = 0 ∧ k 8 = 0 ∧ s = 0 ∧ k 9 = 0 ∧ k 10 = 0 ∧ k 11 = 0 ∧ k 12 = 0
  | _ => False
/-- does this core hold the token (the one copy that may be written), or is it on its way to it -/
def pv_xv (st : Nat) (k : Nat → Nat) (o : Nat) : Nat := match st with
  | 2 => 1
  | 3 => 1
  | 4 => k 11
  | 5 => k 10
  | 6 => 1
  | 7 => k 10
  | 8 => 1
  | 9 => o + k 4 + k 5
  | 10 => o + k 4 + k 5
  | _ => 0
def pv_oc (kp ow c : Nat) : Nat := if kp = 2 ∧ ow = c then 1 else 0
def pv_sb (sh c : Nat) : Nat := sh / 2 ^ c % 2
def pv_s4 (f : Nat → Nat) : Nat := f 0 + f 1 + f 2 + f 3
def pv_k1 (kp : Nat) : Nat := if kp ≤ 1 then 1 else 0
def pv_k3 (kp : Nat) : Nat := if kp = 3 then 1 else 0
def pv_li (st : Nat → Nat) (k : Nat → Nat → Nat) (got need : Nat → Nat) (kp ow sh : Nat) : Prop :=
  (∀ c, c < 4 → pv_lc (st c) (fun j => k j c) (got c) (need c) (pv_oc kp ow c) (pv_sb sh c)) ∧
  pv_s4 (fun c => pv_xv (st c) (fun j => k j c) (pv_oc kp ow c)) + pv_k1 kp + k 10 4 = 1 ∧
  pv_s4 (fun c => k 4 c) + k 10 4 = pv_k3 kp ∧ kp ≤ 3 ∧ ow < 4 ∧ sh < 16 ∧ (kp = 0 ∨ kp = 2 → sh = 0) ∧ (∀ c, k 13 c ≤ 3 * k 10 c)
theorem pv_s4_0 {f g : Nat → Nat} (h : ∀ d, d < 4 → g d = f d) : pv_s4 g = pv_s4 f := by
  simp only [pv_s4, h 0 (by omega), h 1 (by omega), h 2 (by omega), h 3 (by omega)]
theorem pv_s4_1 {f g : Nat → Nat} {c : Nat} (hc : c < 4) (h : ∀ d, d < 4 → d ≠ c → g d = f d) : pv_s4 g + f c = pv_s4 f + g c := by
  have h0 := h 0 (by omega)
  have h1 := h 1 (by omega)
  have h2 := h 2 (by omega)
  have h3 := h 3 (by omega)
  rcases (show c = 0 ∨ c = 1 ∨ c = 2 ∨ c = 3 by omega) with rfl | rfl | rfl | rfl <;> simp only [pv_s4] <;> simp at h0 h1 h2 h3 <;> omega
theorem pv_s4_2 {f g : Nat → Nat} {c r : Nat} (hc : c < 4) (hr : r < 4) (hcr : c ≠ r) (h : ∀ d, d < 4 → d ≠ c → d ≠ r → g d = f d) : pv_s4 g + f c + f r = pv_s4 f + g c + g r := by
  have h0 := h 0 (by omega)
  have h1 := h 1 (by omega)
  have h2 := h 2 (by omega)
  have h3 := h 3 (by omega)
  rcases (show c = 0 ∨ c = 1 ∨ c = 2 ∨ c = 3 by omega) with rfl | rfl | rfl | rfl <;> rcases (show r = 0 ∨ r = 1 ∨ r = 2 ∨ r = 3 by omega) with rfl | rfl | rfl | rfl <;> simp only [pv_s4] <;> simp at hcr h0 h1 h2 h3 <;> omega
theorem pv_s4_le {f : Nat → Nat} {c : Nat} (hc : c < 4) : f c ≤ pv_s4 f := by
  rcases (show c = 0 ∨ c = 1 ∨ c = 2 ∨ c = 3 by omega) with rfl | rfl | rfl | rfl <;> simp only [pv_s4] <;> omega
theorem pv_s4_le2 {f : Nat → Nat} {c r : Nat} (hc : c < 4) (hr : r < 4) (hcr : c ≠ r) : f c + f r ≤ pv_s4 f := by
  rcases (show c = 0 ∨ c = 1 ∨ c = 2 ∨ c = 3 by omega) with rfl | rfl | rfl | rfl <;> rcases (show r = 0 ∨ r = 1 ∨ r = 2 ∨ r = 3 by omega) with rfl | rfl | rfl | rfl <;> simp only [pv_s4] <;> first | omega | exact absurd rfl hcr
theorem pv_lc_congr {st : Nat} {k k' : Nat → Nat} {got need o s : Nat} (h : ∀ j, k' j = k j) (hl : pv_lc st k got need o s) : pv_lc st k' got need o s := by
  have e : k' = k := funext h
  rw [e]; exact hl
theorem pv_lc_le {st : Nat} {k : Nat → Nat} {got need o s : Nat} (h : pv_lc st k got need o s) : st ≤ 12 := by
  unfold pv_lc at h
  split at h <;> first | omega | exact h.elim
/-- what the counters say of the state -/
theorem pv_lc_rd {st : Nat} {k : Nat → Nat} {got need o s : Nat} (h : pv_lc st k got need o s) (hk : 1 ≤ k 0) : st = 4 := by
  unfold pv_lc at h
  split at h <;> first | omega | exact h.elim
theorem pv_lc_wr {st : Nat} {k : Nat → Nat} {got need o s : Nat} (h : pv_lc st k got need o s) (hk : 1 ≤ k 1) : st = 5 ∨ st = 7 := by
  unfold pv_lc at h
  split at h <;> first | omega | exact h.elim
theorem pv_lc_lv {st : Nat} {k : Nat → Nat} {got need o s : Nat} (h : pv_lc st k got need o s) (hk : 1 ≤ k 2) : st = 9 ∨ st = 10 ∨ st = 11 ∨ st = 12 := by
  unfold pv_lc at h
  split at h <;> first | omega | exact h.elim
theorem pv_lc_lf {st : Nat} {k : Nat → Nat} {got need o s : Nat} (h : pv_lc st k got need o s) (hk : 1 ≤ k 3) : st = 9 ∨ st = 10 ∨ st = 11 ∨ st = 12 := by
  unfold pv_lc at h
  split at h <;> first | omega | exact h.elim
theorem pv_lc_frg {st : Nat} {k : Nat → Nat} {got need o s : Nat} (h : pv_lc st k got need o s) (hk : 1 ≤ k 6) : st = 4 := by
  unfold pv_lc at h
  split at h <;> first | omega | exact h.elim
theorem pv_lc_fwg {st : Nat} {k : Nat → Nat} {got need o s : Nat} (h : pv_lc st k got need o s) (hk : 1 ≤ k 7) : st = 5 ∨ st = 7 := by
  unfold pv_lc at h
  split at h <;> first | omega | exact h.elim
/-- a FORWARD that is taken (not stalled) finds a whole copy -/
theorem pv_lc_fq {st : Nat} {k : Nat → Nat} {got need o s : Nat} (h : pv_lc st k got need o s) (hk : 1 ≤ k 4 + k 5) (hs : ¬ (4 ≤ st ∧ st ≤ 8)) : st = 2 ∨ st = 3 ∨ st = 9 ∨ st = 10 := by
  unfold pv_lc at h
  split at h <;> first | omega | exact h.elim
/-- a DROP that is taken finds a shared copy -/
theorem pv_lc_dq {st : Nat} {k : Nat → Nat} {got need o s : Nat} (h : pv_lc st k got need o s) (hk : 1 ≤ k 8) (hs : st ≠ 4) : st = 1 ∨ st = 7 ∨ st = 11 := by
  unfold pv_lc at h
  split at h <;> first | omega | exact h.elim
theorem pv_lc_da {st : Nat} {k : Nat → Nat} {got need o s : Nat} (h : pv_lc st k got need o s) (hk : 1 ≤ k 10) : st = 4 ∨ st = 5 ∨ st = 7 := by
  unfold pv_lc at h
  split at h <;> first | omega | exact h.elim
theorem pv_lc_so {st : Nat} {k : Nat → Nat} {got need o s : Nat} (h : pv_lc st k got need o s) (hk : 1 ≤ k 11) : st = 4 := by
  unfold pv_lc at h
  split at h <;> first | omega | exact h.elim
theorem pv_lc_ack {st : Nat} {k : Nat → Nat} {got need o s : Nat} (h : pv_lc st k got need o s) (hk : 1 ≤ k 9 + k 12) (h13 : k 13 ≤ 3 * k 10) : ((st = 5 ∨ st = 7) ∧ 1 ≤ k 10) ∨ st = 6 ∨ st = 8 := by
  unfold pv_lc at h
  split at h <;> first | omega | exact h.elim
end
section
theorem pv_bk_0 {j d kd to rq n : Nat} (h1 : to ≠ d) (h2 : rq ≠ d) : pv_bk j d kd to rq n = 0 := by
  unfold pv_bk
  split <;> simp [h1, h2]
theorem pv_oc_le (kp ow c : Nat) : pv_oc kp ow c ≤ 1 := by unfold pv_oc; split <;> omega
theorem pv_sb_le (sh c : Nat) : pv_sb sh c ≤ 1 := by unfold pv_sb; omega
set_option maxHeartbeats 4000000 in
theorem pv_t_rd {st st' : Nat → Nat} {k k' : Nat → Nat → Nat} {got need got' need' : Nat → Nat} {kp ow sh c : Nat} (h : pv_li st k got need kp ow sh) (hc : c < 4) (hs : st c = 0) (hst : ∀ d, st' d = if d = c then 4 else st d) (hg : ∀ d, got' d = if d = c then 0 else got d) (hn : ∀ d, need' d = if d = c then 0 else need d) (hk : ∀ j d, k' j d = k j d + pv_bk j d 0 4 c 0) (h13 : ∀ d, k' 13 d ≤ 3 * k' 10 d) : pv_li st' k' got' need' kp ow sh := by
  obtain ⟨hL, hX, hF, hkp, how, hsh, hz, h13o⟩ := h
  have L := hL c hc
  rw [hs] at L
  simp only [pv_lc] at L
  have K : ∀ d, d < 4 → d ≠ c → ∀ j, k' j d = k j d := by
    intro d h4 n0 j
    have e := hk j d
    rw [pv_bk_0 (show 4 ≠ d by omega) (show c ≠ d by omega)] at e
    omega
  have C0 := hk 0 c
  have C1 := hk 1 c
  have C2 := hk 2 c
  have C3 := hk 3 c
  have C4 := hk 4 c
  have C5 := hk 5 c
  have C6 := hk 6 c
  have C7 := hk 7 c
  have C8 := hk 8 c
  have C9 := hk 9 c
  have C10 := hk 10 c
  have C11 := hk 11 c
  have C12 := hk 12 c
  have C13 := hk 13 c
  simp [pv_bk, show (4 : Nat) ≠ c by omega] at C0 C1 C2 C3 C4 C5 C6 C7 C8 C9 C10 C11 C12 C13
  have H10 := hk 10 4
  simp [pv_bk, show c ≠ 4 by omega] at H10
  have OO : ∀ d, d < 4 → d ≠ c → pv_oc kp ow d = pv_oc kp ow d := by
    intro d h4 n0; rfl
  have SS : ∀ d, d < 4 → d ≠ c → pv_sb sh d = pv_sb sh d := by
    intro d h4 n0; rfl
  have TT : ∀ d, d < 4 → d ≠ c → st' d = st d := by
    intro d h4 n0; rw [hst d, if_neg n0]
  have LLc : pv_lc (st' c) (fun j => k' j c) (got' c) (need' c) (pv_oc kp ow c) (pv_sb sh c) := by
    rw [hst c, if_pos rfl, hg c, hn c, if_pos rfl, if_pos rfl]
    simp only [pv_lc]
    omega
  have LL : ∀ d, d < 4 → pv_lc (st' d) (fun j => k' j d) (got' d) (need' d) (pv_oc kp ow d) (pv_sb sh d) := by
    intro d h4
    by_cases n0 : d = c
    · subst n0; exact LLc
    rw [TT d h4 n0, OO d h4 n0, SS d h4 n0, show (fun j => k' j d) = (fun j => k j d) from funext (K d h4 n0), hg d, if_neg n0, hn d, if_neg n0]
    exact hL d h4
  have X := pv_s4_1 hc (f := fun z => pv_xv (st z) (fun j => k j z) (pv_oc kp ow z)) (g := fun z => pv_xv (st' z) (fun j => k' j z) (pv_oc kp ow z)) (fun d h4 n0 => by
    show pv_xv (st' d) (fun j => k' j d) (pv_oc kp ow d) = pv_xv (st d) (fun j => k j d) (pv_oc kp ow d)
    rw [TT d h4 n0, OO d h4 n0, show (fun j => k' j d) = (fun j => k j d) from funext (K d h4 n0)])
  have Y := pv_s4_1 hc (f := fun c => k 4 c) (g := fun c => k' 4 c) (fun d h4 n0 => K d h4 n0 4)
  try simp only at X Y
  have xa : pv_xv (st c) (fun j => k j c) (pv_oc kp ow c) = 0 := by rw [hs]; simp only [pv_xv]
  have xb : pv_xv (st' c) (fun j => k' j c) (pv_oc kp ow c) = k' 11 c := by rw [hst c, if_pos rfl]; simp only [pv_xv]
  rw [xa, xb] at X
  refine ⟨LL, ?_, ?_, ?_, ?_, ?_, ?_, h13⟩
  · omega
  · omega
  · omega
  · omega
  · omega
  · exact hz
set_option maxHeartbeats 4000000 in
theorem pv_t_wr {st st' : Nat → Nat} {k k' : Nat → Nat → Nat} {got need got' need' : Nat → Nat} {kp ow sh c : Nat} (h : pv_li st k got need kp ow sh) (hc : c < 4) (hs : st c = 0 ∨ st c = 1) (hst : ∀ d, st' d = if d = c then (if st c = 1 then 7 else 5) else st d) (hg : ∀ d, got' d = if d = c then 0 else got d) (hn : ∀ d, need' d = if d = c then 0 else need d) (hk : ∀ j d, k' j d = k j d + pv_bk j d 1 4 c 0) (h13 : ∀ d, k' 13 d ≤ 3 * k' 10 d) : pv_li st' k' got' need' kp ow sh := by
  obtain ⟨hL, hX, hF, hkp, how, hsh, hz, h13o⟩ := h
  have L := hL c hc
  have h130 := h13o c
  have K : ∀ d, d < 4 → d ≠ c → ∀ j, k' j d = k j d := by
    intro d h4 n0 j
    have e := hk j d
    rw [pv_bk_0 (show 4 ≠ d by omega) (show c ≠ d by omega)] at e
    omega
  have C0 := hk 0 c
  have C1 := hk 1 c
  have C2 := hk 2 c
  have C3 := hk 3 c
  have C4 := hk 4 c
  have C5 := hk 5 c
  have C6 := hk 6 c
  have C7 := hk 7 c
  have C8 := hk 8 c
  have C9 := hk 9 c
  have C10 := hk 10 c
  have C11 := hk 11 c
  have C12 := hk 12 c
  have C13 := hk 13 c
  simp [pv_bk, show (4 : Nat) ≠ c by omega] at C0 C1 C2 C3 C4 C5 C6 C7 C8 C9 C10 C11 C12 C13
  have H10 := hk 10 4
  simp [pv_bk, show c ≠ 4 by omega] at H10
  have OO : ∀ d, d < 4 → d ≠ c → pv_oc kp ow d = pv_oc kp ow d := by
    intro d h4 n0; rfl
  have SS : ∀ d, d < 4 → d ≠ c → pv_sb sh d = pv_sb sh d := by
    intro d h4 n0; rfl
  have TT : ∀ d, d < 4 → d ≠ c → st' d = st d := by
    intro d h4 n0; rw [hst d, if_neg n0]
  have LLc : pv_lc (st' c) (fun j => k' j c) (got' c) (need' c) (pv_oc kp ow c) (pv_sb sh c) := by
    rw [hst c, if_pos rfl, hg c, hn c, if_pos rfl, if_pos rfl]
    rcases hs with e | e <;> rw [e] at L ⊢ <;> simp [pv_lc] at L ⊢ <;> omega
  have LL : ∀ d, d < 4 → pv_lc (st' d) (fun j => k' j d) (got' d) (need' d) (pv_oc kp ow d) (pv_sb sh d) := by
    intro d h4
    by_cases n0 : d = c
    · subst n0; exact LLc
    rw [TT d h4 n0, OO d h4 n0, SS d h4 n0, show (fun j => k' j d) = (fun j => k j d) from funext (K d h4 n0), hg d, if_neg n0, hn d, if_neg n0]
    exact hL d h4
  have X := pv_s4_1 hc (f := fun z => pv_xv (st z) (fun j => k j z) (pv_oc kp ow z)) (g := fun z => pv_xv (st' z) (fun j => k' j z) (pv_oc kp ow z)) (fun d h4 n0 => by
    show pv_xv (st' d) (fun j => k' j d) (pv_oc kp ow d) = pv_xv (st d) (fun j => k j d) (pv_oc kp ow d)
    rw [TT d h4 n0, OO d h4 n0, show (fun j => k' j d) = (fun j => k j d) from funext (K d h4 n0)])
  have Y := pv_s4_1 hc (f := fun c => k 4 c) (g := fun c => k' 4 c) (fun d h4 n0 => K d h4 n0 4)
  try simp only at X Y
  have xa : pv_xv (st c) (fun j => k j c) (pv_oc kp ow c) = 0 := by rcases hs with e | e <;> rw [e] <;> simp only [pv_xv]
  have xb : pv_xv (st' c) (fun j => k' j c) (pv_oc kp ow c) = k' 10 c := by rw [hst c, if_pos rfl]; rcases hs with e | e <;> rw [e] <;> simp [pv_xv]
  have z10 : k 10 c = 0 := by rcases hs with e | e <;> rw [e] at L <;> simp only [pv_lc] at L <;> omega
  rw [xa, xb] at X
  refine ⟨LL, ?_, ?_, ?_, ?_, ?_, ?_, h13⟩
  · omega
  · omega
  · omega
  · omega
  · omega
  · exact hz
theorem pv_t_hit {st st' : Nat → Nat} {k : Nat → Nat → Nat} {got need : Nat → Nat} {kp ow sh c : Nat} (h : pv_li st k got need kp ow sh) (hc : c < 4) (hs : st c = 2 ∨ st c = 3) (hst : ∀ d, st' d = if d = c then 3 else st d) : pv_li st' k got need kp ow sh := by
  obtain ⟨hL, hX, hF, hkp, how, hsh, hz, h13o⟩ := h
  have L := hL c hc
  have X := pv_s4_0 (f := fun c => pv_xv (st c) (fun j => k j c) (pv_oc kp ow c)) (g := fun c => pv_xv (st' c) (fun j => k j c) (pv_oc kp ow c)) (fun d _ => by
    show pv_xv (st' d) (fun j => k j d) (pv_oc kp ow d) = pv_xv (st d) (fun j => k j d) (pv_oc kp ow d)
    rw [hst d]
    split
    · next e => subst e; rcases hs with e | e <;> rw [e] <;> simp only [pv_xv]
    · rfl)
  refine ⟨fun d h4 => ?_, by rw [X]; exact hX, hF, hkp, how, hsh, hz, h13o⟩
  rw [hst d]
  split
  · next e => subst e; rcases hs with e | e <;> rw [e] at L <;> simp only [pv_lc] at L ⊢ <;> omega
  · exact hL d h4
set_option maxHeartbeats 4000000 in
theorem pv_t_lv {st st' : Nat → Nat} {k k' : Nat → Nat → Nat} {got need got' need' : Nat → Nat} {kp ow sh c : Nat} (h : pv_li st k got need kp ow sh) (hc : c < 4) (hs : st c = 1 ∨ st c = 2 ∨ st c = 3) (hst : ∀ d, st' d = if d = c then 12 - st c else st d) (hk : ∀ j d, k' j d = k j d + pv_bk j d (st c + 1) 4 c 0) (h13 : ∀ d, k' 13 d ≤ 3 * k' 10 d) : pv_li st' k' got need kp ow sh := by
  obtain ⟨hL, hX, hF, hkp, how, hsh, hz, h13o⟩ := h
  have L := hL c hc
  have hs' : st c ≠ 0 ∧ st c + 1 ≠ 0 ∧ st c + 1 ≠ 1 ∧ (st c + 1 = 2 ∨ st c + 1 = 3 ∨ st c + 1 = 4) := by omega
  generalize hv : st c + 1 = v at hk hs'
  have v5 : v ≠ 8 ∧ v ≠ 5 ∧ v ≠ 6 ∧ v ≠ 7 ∧ v ≠ 9 ∧ v ≠ 10 ∧ v ≠ 11 ∧ v ≠ 0 ∧ v ≠ 1 := by omega
  have K : ∀ d, d < 4 → d ≠ c → ∀ j, k' j d = k j d := by
    intro d h4 n0 j
    have e := hk j d
    rw [pv_bk_0 (show 4 ≠ d by omega) (show c ≠ d by omega)] at e
    omega
  have C0 := hk 0 c
  have C1 := hk 1 c
  have C2 := hk 2 c
  have C3 := hk 3 c
  have C4 := hk 4 c
  have C5 := hk 5 c
  have C6 := hk 6 c
  have C7 := hk 7 c
  have C8 := hk 8 c
  have C9 := hk 9 c
  have C10 := hk 10 c
  have C11 := hk 11 c
  have C12 := hk 12 c
  have C13 := hk 13 c
  simp [pv_bk, v5, hs'.2.2.2] at C0 C1 C2 C3 C4 C5 C6 C7 C8 C9 C10 C11 C12 C13
  have H10 := hk 10 4
  simp [pv_bk, v5] at H10
  have OO : ∀ d, d < 4 → d ≠ c → pv_oc kp ow d = pv_oc kp ow d := by
    intro d h4 n0; rfl
  have SS : ∀ d, d < 4 → d ≠ c → pv_sb sh d = pv_sb sh d := by
    intro d h4 n0; rfl
  have TT : ∀ d, d < 4 → d ≠ c → st' d = st d := by
    intro d h4 n0; rw [hst d, if_neg n0]
  have LLc : pv_lc (st' c) (fun j => k' j c) (got c) (need c) (pv_oc kp ow c) (pv_sb sh c) := by
    rw [hst c, if_pos rfl]
    rcases hs with e | e | e <;> rw [e] at L ⊢ <;> simp [pv_lc] at L ⊢ <;> omega
  have LL : ∀ d, d < 4 → pv_lc (st' d) (fun j => k' j d) (got d) (need d) (pv_oc kp ow d) (pv_sb sh d) := by
    intro d h4
    by_cases n0 : d = c
    · subst n0; exact LLc
    rw [TT d h4 n0, OO d h4 n0, SS d h4 n0, show (fun j => k' j d) = (fun j => k j d) from funext (K d h4 n0)]
    exact hL d h4
  have X := pv_s4_1 hc (f := fun z => pv_xv (st z) (fun j => k j z) (pv_oc kp ow z)) (g := fun z => pv_xv (st' z) (fun j => k' j z) (pv_oc kp ow z)) (fun d h4 n0 => by
    show pv_xv (st' d) (fun j => k' j d) (pv_oc kp ow d) = pv_xv (st d) (fun j => k j d) (pv_oc kp ow d)
    rw [TT d h4 n0, OO d h4 n0, show (fun j => k' j d) = (fun j => k j d) from funext (K d h4 n0)])
  have Y := pv_s4_1 hc (f := fun c => k 4 c) (g := fun c => k' 4 c) (fun d h4 n0 => K d h4 n0 4)
  try simp only at X Y
  have xa : pv_xv (st' c) (fun j => k' j c) (pv_oc kp ow c) = pv_xv (st c) (fun j => k j c) (pv_oc kp ow c) := by rw [hst c, if_pos rfl]; rcases hs with e | e | e <;> rw [e] at L ⊢ <;> simp [pv_lc, pv_xv] at L ⊢ <;> omega
  rw [xa] at X
  refine ⟨LL, ?_, ?_, ?_, ?_, ?_, ?_, h13⟩
  · omega
  · omega
  · omega
  · omega
  · omega
  · exact hz
set_option maxHeartbeats 4000000 in
theorem pv_t_hr0 {st st' : Nat → Nat} {k k' : Nat → Nat → Nat} {got need got' need' : Nat → Nat} {kp ow sh c : Nat} (h : pv_li st k got need kp ow sh) (hc : c < 4) (h0 : kp = 0) (h1 : 1 ≤ k 0 c) (hk : ∀ j d, k' j d + pv_bk j d 0 4 c 0 = k j d + pv_bk j d 10 c c 0) (h13 : ∀ d, k' 13 d ≤ 3 * k' 10 d) : pv_li st k' got need 2 c sh := by
  obtain ⟨hL, hX, hF, hkp, how, hsh, hz, h13o⟩ := h
  have L := hL c hc
  have s4 := pv_lc_rd L h1
  rw [s4] at L
  simp only [pv_lc] at L
  subst h0
  have sz := hz (Or.inl rfl)
  have K : ∀ d, d < 4 → d ≠ c → ∀ j, k' j d = k j d := by
    intro d h4 n0 j
    have e := hk j d
    rw [pv_bk_0 (show 4 ≠ d by omega) (show c ≠ d by omega), pv_bk_0 (show c ≠ d by omega) (show c ≠ d by omega)] at e
    omega
  have C0 := hk 0 c
  have C1 := hk 1 c
  have C2 := hk 2 c
  have C3 := hk 3 c
  have C4 := hk 4 c
  have C5 := hk 5 c
  have C6 := hk 6 c
  have C7 := hk 7 c
  have C8 := hk 8 c
  have C9 := hk 9 c
  have C10 := hk 10 c
  have C11 := hk 11 c
  have C12 := hk 12 c
  have C13 := hk 13 c
  simp [pv_bk, show (4 : Nat) ≠ c by omega] at C0 C1 C2 C3 C4 C5 C6 C7 C8 C9 C10 C11 C12 C13
  have H10 := hk 10 4
  simp [pv_bk, show c ≠ 4 by omega] at H10
  have OO : ∀ d, d < 4 → d ≠ c → pv_oc 2 c d = pv_oc 0 ow d := by
    intro d h4 n0; have : c ≠ d := fun z => n0 z.symm
    simp [pv_oc, this]
  have SS : ∀ d, d < 4 → d ≠ c → pv_sb sh d = pv_sb sh d := by
    intro d h4 n0; rfl
  have TT : ∀ d, d < 4 → d ≠ c → st d = st d := by
    intro d h4 n0; rfl
  have o1 : pv_oc 2 c c = 1 := by simp [pv_oc]
  have LLc : pv_lc (st c) (fun j => k' j c) (got c) (need c) (pv_oc 2 c c) (pv_sb sh c) := by
    rw [s4, o1]
    simp only [pv_lc]
    have := pv_sb_le sh c
    omega
  have LL : ∀ d, d < 4 → pv_lc (st d) (fun j => k' j d) (got d) (need d) (pv_oc 2 c d) (pv_sb sh d) := by
    intro d h4
    by_cases n0 : d = c
    · subst n0; exact LLc
    rw [TT d h4 n0, OO d h4 n0, SS d h4 n0, show (fun j => k' j d) = (fun j => k j d) from funext (K d h4 n0)]
    exact hL d h4
  have X := pv_s4_1 hc (f := fun z => pv_xv (st z) (fun j => k j z) (pv_oc 0 ow z)) (g := fun z => pv_xv (st z) (fun j => k' j z) (pv_oc 2 c z)) (fun d h4 n0 => by
    show pv_xv (st d) (fun j => k' j d) (pv_oc 2 c d) = pv_xv (st d) (fun j => k j d) (pv_oc 0 ow d)
    rw [TT d h4 n0, OO d h4 n0, show (fun j => k' j d) = (fun j => k j d) from funext (K d h4 n0)])
  have Y := pv_s4_1 hc (f := fun c => k 4 c) (g := fun c => k' 4 c) (fun d h4 n0 => K d h4 n0 4)
  try simp only at X Y
  have xa : pv_xv (st c) (fun j => k j c) (pv_oc 0 ow c) = k 11 c := by rw [s4]; simp only [pv_xv]
  have xb : pv_xv (st c) (fun j => k' j c) (pv_oc 2 c c) = k' 11 c := by rw [s4]; simp only [pv_xv]
  rw [xa, xb] at X
  have q1 : pv_k1 0 = 1 := rfl
  have q2 : pv_k1 2 = 0 := rfl
  have q3 : pv_k1 3 = 0 := rfl
  have q4 : pv_k3 0 = 0 := rfl
  have q5 : pv_k3 2 = 0 := rfl
  have q6 : pv_k3 3 = 1 := rfl
  refine ⟨LL, ?_, ?_, ?_, ?_, ?_, ?_, h13⟩
  · omega
  · omega
  · omega
  · omega
  · omega
  · intro _; exact sz
set_option maxHeartbeats 4000000 in
theorem pv_t_hr1 {st st' : Nat → Nat} {k k' : Nat → Nat → Nat} {got need got' need' : Nat → Nat} {kp ow sh c sh' : Nat} (h : pv_li st k got need kp ow sh) (hc : c < 4) (h0 : kp = 1) (h1 : 1 ≤ k 0 c) (hb : ∀ d, d < 4 → pv_sb sh' d = if d = c then 1 else pv_sb sh d) (hsh' : sh' < 16) (hk : ∀ j d, k' j d + pv_bk j d 0 4 c 0 = k j d + pv_bk j d 9 c c 0) (h13 : ∀ d, k' 13 d ≤ 3 * k' 10 d) : pv_li st k' got need kp ow sh' := by
  obtain ⟨hL, hX, hF, hkp, how, hsh, hz, h13o⟩ := h
  have L := hL c hc
  have s4 := pv_lc_rd L h1
  rw [s4] at L
  simp only [pv_lc] at L
  have K : ∀ d, d < 4 → d ≠ c → ∀ j, k' j d = k j d := by
    intro d h4 n0 j
    have e := hk j d
    rw [pv_bk_0 (show 4 ≠ d by omega) (show c ≠ d by omega), pv_bk_0 (show c ≠ d by omega) (show c ≠ d by omega)] at e
    omega
  have C0 := hk 0 c
  have C1 := hk 1 c
  have C2 := hk 2 c
  have C3 := hk 3 c
  have C4 := hk 4 c
  have C5 := hk 5 c
  have C6 := hk 6 c
  have C7 := hk 7 c
  have C8 := hk 8 c
  have C9 := hk 9 c
  have C10 := hk 10 c
  have C11 := hk 11 c
  have C12 := hk 12 c
  have C13 := hk 13 c
  simp [pv_bk, show (4 : Nat) ≠ c by omega] at C0 C1 C2 C3 C4 C5 C6 C7 C8 C9 C10 C11 C12 C13
  have H10 := hk 10 4
  simp [pv_bk, show c ≠ 4 by omega] at H10
  have OO : ∀ d, d < 4 → d ≠ c → pv_oc kp ow d = pv_oc kp ow d := by
    intro d h4 n0; rfl
  have SS : ∀ d, d < 4 → d ≠ c → pv_sb sh' d = pv_sb sh d := by
    intro d h4 n0; rw [hb d h4, if_neg n0]
  have TT : ∀ d, d < 4 → d ≠ c → st d = st d := by
    intro d h4 n0; rfl
  have LLc : pv_lc (st c) (fun j => k' j c) (got c) (need c) (pv_oc kp ow c) (pv_sb sh' c) := by
    rw [s4, hb c hc, if_pos rfl]
    simp only [pv_lc]
    omega
  have LL : ∀ d, d < 4 → pv_lc (st d) (fun j => k' j d) (got d) (need d) (pv_oc kp ow d) (pv_sb sh' d) := by
    intro d h4
    by_cases n0 : d = c
    · subst n0; exact LLc
    rw [TT d h4 n0, OO d h4 n0, SS d h4 n0, show (fun j => k' j d) = (fun j => k j d) from funext (K d h4 n0)]
    exact hL d h4
  have X := pv_s4_1 hc (f := fun z => pv_xv (st z) (fun j => k j z) (pv_oc kp ow z)) (g := fun z => pv_xv (st z) (fun j => k' j z) (pv_oc kp ow z)) (fun d h4 n0 => by
    show pv_xv (st d) (fun j => k' j d) (pv_oc kp ow d) = pv_xv (st d) (fun j => k j d) (pv_oc kp ow d)
    rw [TT d h4 n0, OO d h4 n0, show (fun j => k' j d) = (fun j => k j d) from funext (K d h4 n0)])
  have Y := pv_s4_1 hc (f := fun c => k 4 c) (g := fun c => k' 4 c) (fun d h4 n0 => K d h4 n0 4)
  try simp only at X Y
  have xa : pv_xv (st c) (fun j => k j c) (pv_oc kp ow c) = k 11 c := by rw [s4]; simp only [pv_xv]
  have xb : pv_xv (st c) (fun j => k' j c) (pv_oc kp ow c) = k' 11 c := by rw [s4]; simp only [pv_xv]
  rw [xa, xb] at X
  refine ⟨LL, ?_, ?_, ?_, ?_, ?_, ?_, h13⟩
  · omega
  · omega
  · omega
  · omega
  · omega
  · intro z; omega
set_option maxHeartbeats 4000000 in
theorem pv_t_hr2 {st st' : Nat → Nat} {k k' : Nat → Nat → Nat} {got need got' need' : Nat → Nat} {kp ow sh c r sh' : Nat} (h : pv_li st k got need kp ow sh) (hr : r < 4) (h0 : kp = 2) (ho : ow = c) (h1 : 1 ≤ k 0 r) (hb : ∀ d, d < 4 → pv_sb sh' d = if d = c ∨ d = r then 1 else 0) (hsh' : sh' < 16) (hk : ∀ j d, k' j d + pv_bk j d 0 4 r 0 = k j d + pv_bk j d 5 c r 0) (h13 : ∀ d, k' 13 d ≤ 3 * k' 10 d) : pv_li st k' got need 3 c sh' := by
  obtain ⟨hL, hX, hF, hkp, how, hsh, hz, h13o⟩ := h
  subst ho
  have hc := how
  generalize ow = c at *
  subst h0
  have sz := hz (Or.inr rfl)
  have o1 : pv_oc 2 c c = 1 := by simp [pv_oc]
  have o3 : ∀ d, pv_oc 3 c d = 0 := fun d => by simp [pv_oc]
  have Lr := hL r hr
  have s4 := pv_lc_rd Lr h1
  rw [s4] at Lr
  simp only [pv_lc] at Lr
  have hcr : c ≠ r := by
    intro e; subst e; omega
  have sz0 : ∀ d, pv_sb sh d = 0 := fun d => by rw [sz]; simp [pv_sb]
  have L := hL c hc
  have b12 := pv_lc_le L
  rw [o1, sz0 c] at L
  have K : ∀ d, d < 4 → d ≠ c → d ≠ r → ∀ j, k' j d = k j d := by
    intro d h4 n0 n1 j
    have e := hk j d
    rw [pv_bk_0 (show 4 ≠ d by omega) (show r ≠ d by omega), pv_bk_0 (show c ≠ d by omega) (show r ≠ d by omega)] at e
    omega
  have C0 := hk 0 c
  have C1 := hk 1 c
  have C2 := hk 2 c
  have C3 := hk 3 c
  have C4 := hk 4 c
  have C5 := hk 5 c
  have C6 := hk 6 c
  have C7 := hk 7 c
  have C8 := hk 8 c
  have C9 := hk 9 c
  have C10 := hk 10 c
  have C11 := hk 11 c
  have C12 := hk 12 c
  have C13 := hk 13 c
  simp [pv_bk, hcr, hcr.symm, show (4 : Nat) ≠ c by omega] at C0 C1 C2 C3 C4 C5 C6 C7 C8 C9 C10 C11 C12 C13
  have R0 := hk 0 r
  have R1 := hk 1 r
  have R2 := hk 2 r
  have R3 := hk 3 r
  have R4 := hk 4 r
  have R5 := hk 5 r
  have R6 := hk 6 r
  have R7 := hk 7 r
  have R8 := hk 8 r
  have R9 := hk 9 r
  have R10 := hk 10 r
  have R11 := hk 11 r
  have R12 := hk 12 r
  have R13 := hk 13 r
  simp [pv_bk, hcr, hcr.symm, show (4 : Nat) ≠ r by omega] at R0 R1 R2 R3 R4 R5 R6 R7 R8 R9 R10 R11 R12 R13
  have H10 := hk 10 4
  simp [pv_bk, show c ≠ 4 by omega, show r ≠ 4 by omega] at H10
  have OO : ∀ d, d < 4 → d ≠ c → d ≠ r → pv_oc 3 c d = pv_oc 2 c d := by
    intro d h4 n0 n1; have n0' : c ≠ d := fun z => n0 z.symm
    simp [pv_oc, n0']
  have SS : ∀ d, d < 4 → d ≠ c → d ≠ r → pv_sb sh' d = pv_sb sh d := by
    intro d h4 n0 n1; rw [hb d h4, if_neg (by omega), sz0]
  have TT : ∀ d, d < 4 → d ≠ c → d ≠ r → st d = st d := by
    intro d h4 n0 n1; rfl
  have LLc : pv_lc (st c) (fun j => k' j c) (got c) (need c) (pv_oc 3 c c) (pv_sb sh' c) := by
    rw [o3, hb c hc, if_pos (Or.inl rfl)]
    unfold pv_lc at L ⊢
    split at L <;> first | exact L.elim | ((try dsimp only at *) ; omega)
  have LLr : pv_lc (st r) (fun j => k' j r) (got r) (need r) (pv_oc 3 c r) (pv_sb sh' r) := by
    rw [s4, o3, hb r hr, if_pos (Or.inr rfl)]
    simp only [pv_lc]
    have := pv_oc_le 2 c r
    omega
  have LL : ∀ d, d < 4 → pv_lc (st d) (fun j => k' j d) (got d) (need d) (pv_oc 3 c d) (pv_sb sh' d) := by
    intro d h4
    by_cases n0 : d = c
    · subst n0; exact LLc
    by_cases n1 : d = r
    · subst n1; exact LLr
    rw [TT d h4 n0 n1, OO d h4 n0 n1, SS d h4 n0 n1, show (fun j => k' j d) = (fun j => k j d) from funext (K d h4 n0 n1)]
    exact hL d h4
  have X := pv_s4_2 hc hr hcr (f := fun z => pv_xv (st z) (fun j => k j z) (pv_oc 2 c z)) (g := fun z => pv_xv (st z) (fun j => k' j z) (pv_oc 3 c z)) (fun d h4 n0 n1 => by
    show pv_xv (st d) (fun j => k' j d) (pv_oc 3 c d) = pv_xv (st d) (fun j => k j d) (pv_oc 2 c d)
    rw [TT d h4 n0 n1, OO d h4 n0 n1, show (fun j => k' j d) = (fun j => k j d) from funext (K d h4 n0 n1)])
  have Y := pv_s4_2 hc hr hcr (f := fun c => k 4 c) (g := fun c => k' 4 c) (fun d h4 n0 n1 => K d h4 n0 n1 4)
  try simp only at X Y
  have xa : pv_xv (st r) (fun j => k j r) (pv_oc 2 c r) = k 11 r := by rw [s4]; simp only [pv_xv]
  have xb : pv_xv (st r) (fun j => k' j r) (pv_oc 3 c r) = k' 11 r := by rw [s4]; simp only [pv_xv]
  have xc : pv_xv (st c) (fun j => k' j c) (pv_oc 3 c c) = pv_xv (st c) (fun j => k j c) (pv_oc 2 c c) := by
    rw [o1, o3]; unfold pv_xv; unfold pv_lc at L; split <;> simp only at * <;> omega
  rw [xa, xb, xc] at X
  have q1 : pv_k1 0 = 1 := rfl
  have q2 : pv_k1 2 = 0 := rfl
  have q3 : pv_k1 3 = 0 := rfl
  have q4 : pv_k3 0 = 0 := rfl
  have q5 : pv_k3 2 = 0 := rfl
  have q6 : pv_k3 3 = 1 := rfl
  refine ⟨LL, ?_, ?_, ?_, ?_, ?_, ?_, h13⟩
  · omega
  · omega
  · omega
  · omega
  · omega
  · intro z; omega
theorem pv_bk_9 {j d rq n : Nat} (h : d < 4) : pv_bk j d 9 4 rq n = 0 := by
  have : 4 ≠ d := by omega
  unfold pv_bk
  split <;> simp [this]
set_option maxHeartbeats 4000000 in
theorem pv_t_hw2 {st st' : Nat → Nat} {k k' : Nat → Nat → Nat} {got need got' need' : Nat → Nat} {kp ow sh c r : Nat} (h : pv_li st k got need kp ow sh) (hr : r < 4) (h0 : kp = 2) (ho : ow = c) (h1 : 1 ≤ k 1 r) (hk : ∀ j d, k' j d + pv_bk j d 1 4 r 0 = k j d + pv_bk j d 6 c r 0) (h13 : ∀ d, k' 13 d ≤ 3 * k' 10 d) : pv_li st k' got need 2 r sh := by
  obtain ⟨hL, hX, hF, hkp, how, hsh, hz, h13o⟩ := h
  subst ho
  have hc := how
  generalize ow = c at *
  subst h0
  have sz := hz (Or.inr rfl)
  have o1 : pv_oc 2 c c = 1 := by simp [pv_oc]
  have o2 : pv_oc 2 r r = 1 := by simp [pv_oc]
  have Lr := hL r hr
  have s4 := pv_lc_wr Lr h1
  have hcr : c ≠ r := by
    intro e; subst e; rcases s4 with e | e <;> rw [e, o1] at Lr <;> simp only [pv_lc] at Lr <;> omega
  have o3 : pv_oc 2 r c = 0 := by simp [pv_oc, hcr.symm]
  have o4 : pv_oc 2 c r = 0 := by simp [pv_oc, hcr]
  have sz0 : ∀ d, pv_sb sh d = 0 := fun d => by rw [sz]; simp [pv_sb]
  have L := hL c hc
  rw [o1, sz0 c] at L
  rw [o4, sz0 r] at Lr
  have K : ∀ d, d < 4 → d ≠ c → d ≠ r → ∀ j, k' j d = k j d := by
    intro d h4 n0 n1 j
    have e := hk j d
    rw [pv_bk_0 (show 4 ≠ d by omega) (show r ≠ d by omega), pv_bk_0 (show c ≠ d by omega) (show r ≠ d by omega)] at e
    omega
  have C0 := hk 0 c
  have C1 := hk 1 c
  have C2 := hk 2 c
  have C3 := hk 3 c
  have C4 := hk 4 c
  have C5 := hk 5 c
  have C6 := hk 6 c
  have C7 := hk 7 c
  have C8 := hk 8 c
  have C9 := hk 9 c
  have C10 := hk 10 c
  have C11 := hk 11 c
  have C12 := hk 12 c
  have C13 := hk 13 c
  simp [pv_bk, hcr, hcr.symm, show (4 : Nat) ≠ c by omega] at C0 C1 C2 C3 C4 C5 C6 C7 C8 C9 C10 C11 C12 C13
  have R0 := hk 0 r
  have R1 := hk 1 r
  have R2 := hk 2 r
  have R3 := hk 3 r
  have R4 := hk 4 r
  have R5 := hk 5 r
  have R6 := hk 6 r
  have R7 := hk 7 r
  have R8 := hk 8 r
  have R9 := hk 9 r
  have R10 := hk 10 r
  have R11 := hk 11 r
  have R12 := hk 12 r
  have R13 := hk 13 r
  simp [pv_bk, hcr, hcr.symm, show (4 : Nat) ≠ r by omega] at R0 R1 R2 R3 R4 R5 R6 R7 R8 R9 R10 R11 R12 R13
  have H10 := hk 10 4
  simp [pv_bk, show c ≠ 4 by omega, show r ≠ 4 by omega] at H10
  have OO : ∀ d, d < 4 → d ≠ c → d ≠ r → pv_oc 2 r d = pv_oc 2 c d := by
    intro d h4 n0 n1; have n0' : c ≠ d := fun z => n0 z.symm
    have n1' : r ≠ d := fun z => n1 z.symm
    simp [pv_oc, n0', n1']
  have SS : ∀ d, d < 4 → d ≠ c → d ≠ r → pv_sb sh d = pv_sb sh d := by
    intro d h4 n0 n1; rfl
  have TT : ∀ d, d < 4 → d ≠ c → d ≠ r → st d = st d := by
    intro d h4 n0 n1; rfl
  have LLc : pv_lc (st c) (fun j => k' j c) (got c) (need c) (pv_oc 2 r c) (pv_sb sh c) := by
    rw [o3, sz0]
    unfold pv_lc at L ⊢
    split at L <;> first | exact L.elim | ((try dsimp only at *) ; omega)
  have LLr : pv_lc (st r) (fun j => k' j r) (got r) (need r) (pv_oc 2 r r) (pv_sb sh r) := by
    rw [o2, sz0]
    rcases s4 with e | e <;> rw [e] at Lr ⊢ <;> simp only [pv_lc] at Lr ⊢ <;> omega
  have LL : ∀ d, d < 4 → pv_lc (st d) (fun j => k' j d) (got d) (need d) (pv_oc 2 r d) (pv_sb sh d) := by
    intro d h4
    by_cases n0 : d = c
    · subst n0; exact LLc
    by_cases n1 : d = r
    · subst n1; exact LLr
    rw [TT d h4 n0 n1, OO d h4 n0 n1, SS d h4 n0 n1, show (fun j => k' j d) = (fun j => k j d) from funext (K d h4 n0 n1)]
    exact hL d h4
  have X := pv_s4_2 hc hr hcr (f := fun z => pv_xv (st z) (fun j => k j z) (pv_oc 2 c z)) (g := fun z => pv_xv (st z) (fun j => k' j z) (pv_oc 2 r z)) (fun d h4 n0 n1 => by
    show pv_xv (st d) (fun j => k' j d) (pv_oc 2 r d) = pv_xv (st d) (fun j => k j d) (pv_oc 2 c d)
    rw [TT d h4 n0 n1, OO d h4 n0 n1, show (fun j => k' j d) = (fun j => k j d) from funext (K d h4 n0 n1)])
  have Y := pv_s4_2 hc hr hcr (f := fun c => k 4 c) (g := fun c => k' 4 c) (fun d h4 n0 n1 => K d h4 n0 n1 4)
  try simp only at X Y
  have xa : pv_xv (st r) (fun j => k j r) (pv_oc 2 c r) = k 10 r := by rcases s4 with e | e <;> rw [e] <;> simp only [pv_xv]
  have xb : pv_xv (st r) (fun j => k' j r) (pv_oc 2 r r) = k' 10 r := by rcases s4 with e | e <;> rw [e] <;> simp only [pv_xv]
  have xc : pv_xv (st c) (fun j => k' j c) (pv_oc 2 r c) = pv_xv (st c) (fun j => k j c) (pv_oc 2 c c) := by
    rw [o1, o3]; unfold pv_xv; unfold pv_lc at L; split <;> simp only at * <;> omega
  rw [xa, xb, xc] at X
  refine ⟨LL, ?_, ?_, ?_, ?_, ?_, ?_, h13⟩
  · omega
  · omega
  · omega
  · omega
  · omega
  · intro _; exact sz
set_option maxHeartbeats 4000000 in
theorem pv_t_hw1 {st : Nat → Nat} {k k' : Nat → Nat → Nat} {got need : Nat → Nat} {kp ow sh c n : Nat} (h : pv_li st k got need kp ow sh) (hc : c < 4) (h0 : kp ≤ 1) (h1 : 1 ≤ k 1 c) (hfr : ∀ d, d < 4 → 1 ≤ k 6 d → ∃ e, e < 4 ∧ 1 ≤ k 4 e)
    (ho : ∀ d, d < 4 → d ≠ c → ∀ j, j ≠ 8 → k' j d = k j d) (h8 : ∀ d, d < 4 → d ≠ c → k' 8 d = k 8 d + pv_sb sh d) (h4 : k' 10 4 = k 10 4)
    (hk : ∀ j, k' j c + pv_bk j c 1 4 c 0 = k j c + pv_bk j c 9 c c n + if j = 9 then n else 0) (h13 : ∀ d, k' 13 d ≤ 3 * k' 10 d) : pv_li st k' got need 2 c 0 := by
  obtain ⟨hL, hX, hF, hkp, how, hsh, hz, h13o⟩ := h
  have L := hL c hc
  have s5 := pv_lc_wr L h1
  have hF0 : pv_s4 (fun c => k 4 c) + k 10 4 = 0 := by rw [hF]; simp [pv_k3]; omega
  have f0 : ∀ d, d < 4 → k 4 d = 0 := fun d hd => by
    have := pv_s4_le (f := fun c => k 4 c) hd
    try simp only at this
    omega
  have f6 : ∀ d, d < 4 → k 6 d = 0 := fun d hd => by
    by_cases z : k 6 d = 0
    · exact z
    · obtain ⟨e, he, h2⟩ := hfr d hd (by omega)
      have := f0 e he
      omega
  have o0 : ∀ d, pv_oc kp ow d = 0 := fun d => by
    have : kp ≠ 2 := by omega
    simp [pv_oc, this]
  have oo : ∀ d, d ≠ c → pv_oc 2 c d = 0 := fun d hd => by simp [pv_oc, Ne.symm hd]
  have oc1 : pv_oc 2 c c = 1 := by simp [pv_oc]
  have sz : ∀ d, pv_sb 0 d = 0 := fun d => by simp [pv_sb]
  have hk0 := hk 0; have hk1 := hk 1; have hk2 := hk 2; have hk3 := hk 3; have hk4 := hk 4; have hk5 := hk 5; have hk6 := hk 6; have hk7 := hk 7; have hk8 := hk 8; have hk9 := hk 9; have hk10 := hk 10; have hk11 := hk 11; have hk12 := hk 12; have hk13 := hk 13
  simp [pv_bk, show (4 : Nat) ≠ c by omega] at hk0 hk1 hk2 hk3 hk4 hk5 hk6 hk7 hk8 hk9 hk10 hk11 hk12 hk13
  have h13c := h13o c
  have LLc : pv_lc (st c) (fun j => k' j c) (got c) (need c) (pv_oc 2 c c) (pv_sb 0 c) := by
    rw [oc1, sz]
    rw [o0] at L
    rcases s5 with e | e <;> rw [e] at L ⊢ <;> simp only [pv_lc] at L ⊢ <;> omega
  have LL : ∀ d, d < 4 → pv_lc (st d) (fun j => k' j d) (got d) (need d) (pv_oc 2 c d) (pv_sb 0 d) := by
    intro d hd
    by_cases n : d = c
    · subst n; exact LLc
    have Ld := hL d hd
    rw [oo d n, sz]
    rw [o0] at Ld
    have a0 := ho d hd n 0 (by omega); have a1 := ho d hd n 1 (by omega); have a2 := ho d hd n 2 (by omega); have a3 := ho d hd n 3 (by omega); have a4 := ho d hd n 4 (by omega); have a5 := ho d hd n 5 (by omega); have a6 := ho d hd n 6 (by omega); have a7 := ho d hd n 7 (by omega); have a9 := ho d hd n 9 (by omega); have a10 := ho d hd n 10 (by omega); have a11 := ho d hd n 11 (by omega); have a12 := ho d hd n 12 (by omega); have a13 := ho d hd n 13 (by omega)
    have a8 := h8 d hd n
    have f4 := f0 d hd
    have f6 := f6 d hd
    unfold pv_lc at Ld ⊢
    split at Ld <;> first | exact Ld.elim | ((try dsimp only at *) ; omega)
  have X := pv_s4_1 hc (f := fun c => pv_xv (st c) (fun j => k j c) (pv_oc kp ow c)) (g := fun d => pv_xv (st d) (fun j => k' j d) (pv_oc 2 c d)) (fun d hd n => by
    show pv_xv (st d) (fun j => k' j d) (pv_oc 2 c d) = pv_xv (st d) (fun j => k j d) (pv_oc kp ow d)
    have a4 := ho d hd n 4 (by omega); have a5 := ho d hd n 5 (by omega); have a10 := ho d hd n 10 (by omega); have a11 := ho d hd n 11 (by omega)
    rw [oo d n, o0]
    simp only [pv_xv, a4, a5, a10, a11])
  have Y := pv_s4_1 hc (f := fun c => k 4 c) (g := fun c => k' 4 c) (fun d hd n => ho d hd n 4 (by omega))
  try simp only at X Y
  have xa : pv_xv (st c) (fun j => k j c) (pv_oc kp ow c) = k 10 c := by rcases s5 with e | e <;> rw [e] <;> simp only [pv_xv]
  have xb : pv_xv (st c) (fun j => k' j c) (pv_oc 2 c c) = k' 10 c := by rcases s5 with e | e <;> rw [e] <;> simp only [pv_xv]
  have z10 : k 10 c = 0 := by rcases s5 with e | e <;> rw [e] at L <;> simp only [pv_lc] at L <;> omega
  rw [xa, xb] at X
  have k1 : pv_k1 kp = 1 := by unfold pv_k1; rw [if_pos h0]
  refine ⟨LL, ?_, ?_, ?_, ?_, ?_, ?_, h13⟩
  · have q2 : pv_k1 2 = 0 := rfl
    omega
  · have q5 : pv_k3 2 = 0 := rfl
    omega
  · omega
  · omega
  · omega
  · intro _; rfl
set_option maxHeartbeats 4000000 in
theorem pv_t_hlo {st st' : Nat → Nat} {k k' : Nat → Nat → Nat} {got need got' need' : Nat → Nat} {kp ow sh c v : Nat} (h : pv_li st k got need kp ow sh) (hc : c < 4) (h0 : kp = 2) (ho : ow = c) (h1 : 1 ≤ k 2 c) (hv : v = 2 ∨ v = 3 ∨ v = 4) (hk : ∀ j d, k' j d + pv_bk j d v 4 c 0 = k j d + pv_bk j d 8 c c 0) (h13 : ∀ d, k' 13 d ≤ 3 * k' 10 d) : pv_li st k' got need 0 ow sh := by
  obtain ⟨hL, hX, hF, hkp, how, hsh, hz, h13o⟩ := h
  subst h0
  have sz := hz (Or.inr rfl)
  have o1 : pv_oc 2 ow c = 1 := by simp [pv_oc, ho]
  have o0 : ∀ d, pv_oc 0 ow d = 0 := fun d => by simp [pv_oc]
  have L := hL c hc
  have s9 := pv_lc_lv L h1
  rw [o1] at L
  have v5 : v ≠ 8 ∧ v ≠ 5 ∧ v ≠ 6 ∧ v ≠ 7 ∧ v ≠ 9 ∧ v ≠ 10 ∧ v ≠ 11 ∧ v ≠ 0 ∧ v ≠ 1 := by omega
  have s9' : st c = 9 ∨ st c = 10 := by
    rcases s9 with e | e | e | e <;> rw [e] at L <;> simp only [pv_lc] at L <;> omega
  have K : ∀ d, d < 4 → d ≠ c → ∀ j, k' j d = k j d := by
    intro d h4 n0 j
    have e := hk j d
    rw [pv_bk_0 (show 4 ≠ d by omega) (show c ≠ d by omega), pv_bk_0 (show c ≠ d by omega) (show c ≠ d by omega)] at e
    omega
  have C0 := hk 0 c
  have C1 := hk 1 c
  have C2 := hk 2 c
  have C3 := hk 3 c
  have C4 := hk 4 c
  have C5 := hk 5 c
  have C6 := hk 6 c
  have C7 := hk 7 c
  have C8 := hk 8 c
  have C9 := hk 9 c
  have C10 := hk 10 c
  have C11 := hk 11 c
  have C12 := hk 12 c
  have C13 := hk 13 c
  simp [pv_bk, v5, hv, show (4 : Nat) ≠ c by omega] at C0 C1 C2 C3 C4 C5 C6 C7 C8 C9 C10 C11 C12 C13
  have H10 := hk 10 4
  simp [pv_bk, v5, show c ≠ 4 by omega] at H10
  have OO : ∀ d, d < 4 → d ≠ c → pv_oc 0 ow d = pv_oc 2 ow d := by
    intro d h4 n0; have n0' : ow ≠ d := fun z => n0 (z.symm.trans ho)
    simp [pv_oc, n0']
  have SS : ∀ d, d < 4 → d ≠ c → pv_sb sh d = pv_sb sh d := by
    intro d h4 n0; rfl
  have TT : ∀ d, d < 4 → d ≠ c → st d = st d := by
    intro d h4 n0; rfl
  have LLc : pv_lc (st c) (fun j => k' j c) (got c) (need c) (pv_oc 0 ow c) (pv_sb sh c) := by
    rw [o0]
    rcases s9' with e | e <;> rw [e] at L ⊢ <;> simp only [pv_lc] at L ⊢ <;> omega
  have LL : ∀ d, d < 4 → pv_lc (st d) (fun j => k' j d) (got d) (need d) (pv_oc 0 ow d) (pv_sb sh d) := by
    intro d h4
    by_cases n0 : d = c
    · subst n0; exact LLc
    rw [TT d h4 n0, OO d h4 n0, SS d h4 n0, show (fun j => k' j d) = (fun j => k j d) from funext (K d h4 n0)]
    exact hL d h4
  have X := pv_s4_1 hc (f := fun z => pv_xv (st z) (fun j => k j z) (pv_oc 2 ow z)) (g := fun z => pv_xv (st z) (fun j => k' j z) (pv_oc 0 ow z)) (fun d h4 n0 => by
    show pv_xv (st d) (fun j => k' j d) (pv_oc 0 ow d) = pv_xv (st d) (fun j => k j d) (pv_oc 2 ow d)
    rw [TT d h4 n0, OO d h4 n0, show (fun j => k' j d) = (fun j => k j d) from funext (K d h4 n0)])
  have Y := pv_s4_1 hc (f := fun c => k 4 c) (g := fun c => k' 4 c) (fun d h4 n0 => K d h4 n0 4)
  try simp only at X Y
  have xa : pv_xv (st c) (fun j => k j c) (pv_oc 2 ow c) = 1 := by rw [o1]; rcases s9' with e | e <;> rw [e] at L ⊢ <;> simp only [pv_lc, pv_xv] at L ⊢ <;> omega
  have xb : pv_xv (st c) (fun j => k' j c) (pv_oc 0 ow c) = 0 := by rw [o0]; rcases s9' with e | e <;> rw [e] at L ⊢ <;> simp only [pv_lc, pv_xv] at L ⊢ <;> omega
  rw [xa, xb] at X
  have q1 : pv_k1 0 = 1 := rfl
  have q2 : pv_k1 2 = 0 := rfl
  have q3 : pv_k1 3 = 0 := rfl
  have q4 : pv_k3 0 = 0 := rfl
  have q5 : pv_k3 2 = 0 := rfl
  have q6 : pv_k3 3 = 1 := rfl
  refine ⟨LL, ?_, ?_, ?_, ?_, ?_, ?_, h13⟩
  · omega
  · omega
  · omega
  · omega
  · omega
  · intro _; exact sz
set_option maxHeartbeats 4000000 in
theorem pv_t_hln {st st' : Nat → Nat} {k k' : Nat → Nat → Nat} {got need got' need' : Nat → Nat} {kp ow sh c v kp' sh' : Nat} (h : pv_li st k got need kp ow sh) (hc : c < 4) (ho : ¬ (kp = 2 ∧ ow = c)) (h1 : 1 ≤ k 2 c) (hv : v = 2 ∨ v = 3 ∨ v = 4) (hkp' : kp' = if kp = 1 ∧ sh' = 0 then 0 else kp) (hb : ∀ d, d < 4 → pv_sb sh' d = if d = c then 0 else pv_sb sh d) (hsh' : sh' < 16) (hs0 : sh = 0 → sh' = 0) (hk : ∀ j d, k' j d + pv_bk j d v 4 c 0 = k j d + pv_bk j d 8 c c 0) (h13 : ∀ d, k' 13 d ≤ 3 * k' 10 d) : pv_li st k' got need kp' ow sh' := by
  obtain ⟨hL, hX, hF, hkp, how, hsh, hz, h13o⟩ := h
  have oe : ∀ d, pv_oc kp' ow d = pv_oc kp ow d := fun d => by
    rw [hkp']; simp only [pv_oc]; split <;> simp_all
  have o0 : pv_oc kp ow c = 0 := by simp only [pv_oc]; rw [if_neg ho]
  have L := hL c hc
  have s9 := pv_lc_lv L h1
  rw [o0] at L
  have v5 : v ≠ 8 ∧ v ≠ 5 ∧ v ≠ 6 ∧ v ≠ 7 ∧ v ≠ 9 ∧ v ≠ 10 ∧ v ≠ 11 ∧ v ≠ 0 ∧ v ≠ 1 := by omega
  have k1e : pv_k1 kp' = pv_k1 kp := by
    rw [hkp']; simp only [pv_k1]; split <;> simp_all
  have k3e : pv_k3 kp' = pv_k3 kp := by
    rw [hkp']; simp only [pv_k3]; split <;> simp_all
  have K : ∀ d, d < 4 → d ≠ c → ∀ j, k' j d = k j d := by
    intro d h4 n0 j
    have e := hk j d
    rw [pv_bk_0 (show 4 ≠ d by omega) (show c ≠ d by omega), pv_bk_0 (show c ≠ d by omega) (show c ≠ d by omega)] at e
    omega
  have C0 := hk 0 c
  have C1 := hk 1 c
  have C2 := hk 2 c
  have C3 := hk 3 c
  have C4 := hk 4 c
  have C5 := hk 5 c
  have C6 := hk 6 c
  have C7 := hk 7 c
  have C8 := hk 8 c
  have C9 := hk 9 c
  have C10 := hk 10 c
  have C11 := hk 11 c
  have C12 := hk 12 c
  have C13 := hk 13 c
  simp [pv_bk, v5, hv, show (4 : Nat) ≠ c by omega] at C0 C1 C2 C3 C4 C5 C6 C7 C8 C9 C10 C11 C12 C13
  have H10 := hk 10 4
  simp [pv_bk, v5, show c ≠ 4 by omega] at H10
  have OO : ∀ d, d < 4 → d ≠ c → pv_oc kp' ow d = pv_oc kp ow d := by
    intro d h4 n0; exact oe d
  have SS : ∀ d, d < 4 → d ≠ c → pv_sb sh' d = pv_sb sh d := by
    intro d h4 n0; rw [hb d h4, if_neg n0]
  have TT : ∀ d, d < 4 → d ≠ c → st d = st d := by
    intro d h4 n0; rfl
  have LLc : pv_lc (st c) (fun j => k' j c) (got c) (need c) (pv_oc kp' ow c) (pv_sb sh' c) := by
    rw [oe, o0, hb c hc, if_pos rfl]
    rcases s9 with e | e | e | e <;> rw [e] at L ⊢ <;> simp only [pv_lc, and_true, true_and] at L ⊢ <;> omega
  have LL : ∀ d, d < 4 → pv_lc (st d) (fun j => k' j d) (got d) (need d) (pv_oc kp' ow d) (pv_sb sh' d) := by
    intro d h4
    by_cases n0 : d = c
    · subst n0; exact LLc
    rw [TT d h4 n0, OO d h4 n0, SS d h4 n0, show (fun j => k' j d) = (fun j => k j d) from funext (K d h4 n0)]
    exact hL d h4
  have X := pv_s4_1 hc (f := fun z => pv_xv (st z) (fun j => k j z) (pv_oc kp ow z)) (g := fun z => pv_xv (st z) (fun j => k' j z) (pv_oc kp' ow z)) (fun d h4 n0 => by
    show pv_xv (st d) (fun j => k' j d) (pv_oc kp' ow d) = pv_xv (st d) (fun j => k j d) (pv_oc kp ow d)
    rw [TT d h4 n0, OO d h4 n0, show (fun j => k' j d) = (fun j => k j d) from funext (K d h4 n0)])
  have Y := pv_s4_1 hc (f := fun c => k 4 c) (g := fun c => k' 4 c) (fun d h4 n0 => K d h4 n0 4)
  try simp only at X Y
  have xa : pv_xv (st c) (fun j => k' j c) (pv_oc kp' ow c) = pv_xv (st c) (fun j => k j c) (pv_oc kp ow c) := by rw [oe]; simp only [pv_xv, C4, C5, C10, C11]
  rw [xa] at X
  refine ⟨LL, ?_, ?_, ?_, ?_, ?_, ?_, h13⟩
  · omega
  · omega
  · rw [hkp']; split <;> omega
  · omega
  · omega
  · intro z; rw [hkp'] at z; split at z
    · next e => exact e.2
    · exact hs0 (hz z)
set_option maxHeartbeats 4000000 in
theorem pv_t_hda {st : Nat → Nat} {k k' : Nat → Nat → Nat} {got need : Nat → Nat} {kp ow sh r n kp' : Nat} (h : pv_li st k got need kp ow sh) (h1 : 1 ≤ k 10 4) (hkp' : kp' = if sh = 0 then 0 else 1) (hk : ∀ j d, k' j d + pv_bk j d 9 4 r n = k j d) (h13 : ∀ d, k' 13 d ≤ 3 * k' 10 d) : pv_li st k' got need kp' ow sh := by
  obtain ⟨hL, hX, hF, hkp, how, hsh, hz, h13o⟩ := h
  have k3 : kp = 3 := by
    by_cases e : kp = 3
    · exact e
    · simp [pv_k3, e] at hF; omega
  subst k3
  have K : ∀ d, d < 4 → ∀ j, k' j d = k j d := fun d hd j => by
    have e := hk j d
    rw [pv_bk_9 hd] at e
    omega
  have H10 := hk 10 4
  simp [pv_bk] at H10
  have oe : ∀ d, pv_oc kp' ow d = pv_oc 3 ow d := fun d => by
    rw [hkp']; simp only [pv_oc]; split <;> simp
  have X := pv_s4_0 (f := fun c => pv_xv (st c) (fun j => k j c) (pv_oc 3 ow c)) (g := fun c => pv_xv (st c) (fun j => k' j c) (pv_oc kp' ow c)) (fun d hd => by
    show pv_xv (st d) (fun j => k' j d) (pv_oc kp' ow d) = pv_xv (st d) (fun j => k j d) (pv_oc 3 ow d)
    rw [oe, show (fun j => k' j d) = (fun j => k j d) from funext (K d hd)])
  have Y := pv_s4_0 (f := fun c => k 4 c) (g := fun c => k' 4 c) (fun d hd => K d hd 4)
  have k1 : pv_k1 kp' = 1 := by rw [hkp']; simp only [pv_k1]; split <;> simp
  have k3 : pv_k3 kp' = 0 := by rw [hkp']; simp only [pv_k3]; split <;> simp
  simp only [pv_k1, pv_k3] at hX hF
  simp at hX hF
  refine ⟨fun d hd => ?_, ?_, ?_, ?_, how, hsh, ?_, h13⟩
  · rw [oe, show (fun j => k' j d) = (fun j => k j d) from funext (K d hd)]
    exact hL d hd
  · rw [X, k1]; omega
  · rw [Y, k3]; omega
  · rw [hkp']; split <;> omega
  · intro z; rw [hkp'] at z
    by_cases e : sh = 0
    · exact e
    · rw [if_neg e] at z; omega
set_option maxHeartbeats 4000000 in
theorem pv_t_fr {st st' : Nat → Nat} {k k' : Nat → Nat → Nat} {got need got' need' : Nat → Nat} {kp ow sh c r : Nat} (h : pv_li st k got need kp ow sh) (hc : c < 4) (hr : r < 4) (h1 : 1 ≤ k 4 c) (h2 : 1 ≤ k 6 r) (hs : ¬ (4 ≤ st c ∧ st c ≤ 8)) (hst : ∀ d, st' d = if d = c then (if st c ≤ 3 then 1 else 11) else st d) (hk : ∀ j d, k' j d + pv_bk j d 5 c r 0 = k j d + (pv_bk j d 9 r r 0 + pv_bk j d 9 4 r 0)) (h13 : ∀ d, k' 13 d ≤ 3 * k' 10 d) : pv_li st' k' got need kp ow sh := by
  obtain ⟨hL, hX, hF, hkp, how, hsh, hz, h13o⟩ := h
  have L := hL c hc
  have Lr := hL r hr
  have sr := pv_lc_frg Lr h2
  have sc := pv_lc_fq L (by first | omega | (simp only; omega)) hs
  have hcr : c ≠ r := by
    intro e; subst e; omega
  have ob := pv_oc_le kp ow c
  have K : ∀ d, d < 4 → d ≠ c → d ≠ r → ∀ j, k' j d = k j d := by
    intro d h4 n0 n1 j
    have e := hk j d
    rw [pv_bk_0 (show c ≠ d by omega) (show r ≠ d by omega), pv_bk_0 (show r ≠ d by omega) (show r ≠ d by omega), pv_bk_0 (show 4 ≠ d by omega) (show r ≠ d by omega)] at e
    omega
  have C0 := hk 0 c
  have C1 := hk 1 c
  have C2 := hk 2 c
  have C3 := hk 3 c
  have C4 := hk 4 c
  have C5 := hk 5 c
  have C6 := hk 6 c
  have C7 := hk 7 c
  have C8 := hk 8 c
  have C9 := hk 9 c
  have C10 := hk 10 c
  have C11 := hk 11 c
  have C12 := hk 12 c
  have C13 := hk 13 c
  simp [pv_bk, hcr, hcr.symm, show (4 : Nat) ≠ c by omega] at C0 C1 C2 C3 C4 C5 C6 C7 C8 C9 C10 C11 C12 C13
  have R0 := hk 0 r
  have R1 := hk 1 r
  have R2 := hk 2 r
  have R3 := hk 3 r
  have R4 := hk 4 r
  have R5 := hk 5 r
  have R6 := hk 6 r
  have R7 := hk 7 r
  have R8 := hk 8 r
  have R9 := hk 9 r
  have R10 := hk 10 r
  have R11 := hk 11 r
  have R12 := hk 12 r
  have R13 := hk 13 r
  simp [pv_bk, hcr, hcr.symm, show (4 : Nat) ≠ r by omega] at R0 R1 R2 R3 R4 R5 R6 R7 R8 R9 R10 R11 R12 R13
  have H10 := hk 10 4
  simp [pv_bk, show c ≠ 4 by omega, show r ≠ 4 by omega] at H10
  have OO : ∀ d, d < 4 → d ≠ c → d ≠ r → pv_oc kp ow d = pv_oc kp ow d := by
    intro d h4 n0 n1; rfl
  have SS : ∀ d, d < 4 → d ≠ c → d ≠ r → pv_sb sh d = pv_sb sh d := by
    intro d h4 n0 n1; rfl
  have TT : ∀ d, d < 4 → d ≠ c → d ≠ r → st' d = st d := by
    intro d h4 n0 n1; rw [hst d, if_neg n0]
  have LLc : pv_lc (st' c) (fun j => k' j c) (got c) (need c) (pv_oc kp ow c) (pv_sb sh c) := by
    rw [hst c, if_pos rfl]
    rcases sc with e | e | e | e <;> rw [e] at L ⊢ <;> simp [pv_lc] at L ⊢ <;> omega
  have LLr : pv_lc (st' r) (fun j => k' j r) (got r) (need r) (pv_oc kp ow r) (pv_sb sh r) := by
    rw [hst r, if_neg hcr.symm]
    rw [sr] at Lr ⊢
    simp only [pv_lc] at Lr ⊢
    omega
  have LL : ∀ d, d < 4 → pv_lc (st' d) (fun j => k' j d) (got d) (need d) (pv_oc kp ow d) (pv_sb sh d) := by
    intro d h4
    by_cases n0 : d = c
    · subst n0; exact LLc
    by_cases n1 : d = r
    · subst n1; exact LLr
    rw [TT d h4 n0 n1, OO d h4 n0 n1, SS d h4 n0 n1, show (fun j => k' j d) = (fun j => k j d) from funext (K d h4 n0 n1)]
    exact hL d h4
  have X := pv_s4_2 hc hr hcr (f := fun z => pv_xv (st z) (fun j => k j z) (pv_oc kp ow z)) (g := fun z => pv_xv (st' z) (fun j => k' j z) (pv_oc kp ow z)) (fun d h4 n0 n1 => by
    show pv_xv (st' d) (fun j => k' j d) (pv_oc kp ow d) = pv_xv (st d) (fun j => k j d) (pv_oc kp ow d)
    rw [TT d h4 n0 n1, OO d h4 n0 n1, show (fun j => k' j d) = (fun j => k j d) from funext (K d h4 n0 n1)])
  have Y := pv_s4_2 hc hr hcr (f := fun c => k 4 c) (g := fun c => k' 4 c) (fun d h4 n0 n1 => K d h4 n0 n1 4)
  try simp only at X Y
  have xa : pv_xv (st c) (fun j => k j c) (pv_oc kp ow c) = 1 := by rcases sc with e | e | e | e <;> rw [e] at L ⊢ <;> simp only [pv_lc, pv_xv] at L ⊢ <;> omega
  have xb : pv_xv (st' c) (fun j => k' j c) (pv_oc kp ow c) = 0 := by rw [hst c, if_pos rfl]; rcases sc with e | e | e | e <;> rw [e] <;> simp [pv_xv]
  have xc : pv_xv (st r) (fun j => k j r) (pv_oc kp ow r) = k 11 r := by rw [sr]; simp only [pv_xv]
  have xd : pv_xv (st' r) (fun j => k' j r) (pv_oc kp ow r) = k' 11 r := by rw [hst r, if_neg hcr.symm]; rw [sr]; simp only [pv_xv]
  rw [xa, xb, xc, xd] at X
  refine ⟨LL, ?_, ?_, ?_, ?_, ?_, ?_, h13⟩
  · omega
  · omega
  · omega
  · omega
  · omega
  · exact hz
set_option maxHeartbeats 4000000 in
theorem pv_t_fw {st st' : Nat → Nat} {k k' : Nat → Nat → Nat} {got need got' need' : Nat → Nat} {kp ow sh c r : Nat} (h : pv_li st k got need kp ow sh) (hc : c < 4) (hr : r < 4) (h1 : 1 ≤ k 5 c) (h2 : 1 ≤ k 7 r) (hs : ¬ (4 ≤ st c ∧ st c ≤ 8)) (hst : ∀ d, st' d = if d = c then (if st c ≤ 3 then 0 else 12) else st d) (hk : ∀ j d, k' j d + pv_bk j d 6 c r 0 = k j d + pv_bk j d 9 r r 0) (h13 : ∀ d, k' 13 d ≤ 3 * k' 10 d) : pv_li st' k' got need kp ow sh := by
  obtain ⟨hL, hX, hF, hkp, how, hsh, hz, h13o⟩ := h
  have L := hL c hc
  have Lr := hL r hr
  have sr := pv_lc_fwg Lr h2
  have sc := pv_lc_fq L (by first | omega | (simp only; omega)) hs
  have hcr : c ≠ r := by
    intro e; subst e; omega
  have ob := pv_oc_le kp ow c
  have K : ∀ d, d < 4 → d ≠ c → d ≠ r → ∀ j, k' j d = k j d := by
    intro d h4 n0 n1 j
    have e := hk j d
    rw [pv_bk_0 (show c ≠ d by omega) (show r ≠ d by omega), pv_bk_0 (show r ≠ d by omega) (show r ≠ d by omega)] at e
    omega
  have C0 := hk 0 c
  have C1 := hk 1 c
  have C2 := hk 2 c
  have C3 := hk 3 c
  have C4 := hk 4 c
  have C5 := hk 5 c
  have C6 := hk 6 c
  have C7 := hk 7 c
  have C8 := hk 8 c
  have C9 := hk 9 c
  have C10 := hk 10 c
  have C11 := hk 11 c
  have C12 := hk 12 c
  have C13 := hk 13 c
  simp [pv_bk, hcr, hcr.symm, show (4 : Nat) ≠ c by omega] at C0 C1 C2 C3 C4 C5 C6 C7 C8 C9 C10 C11 C12 C13
  have R0 := hk 0 r
  have R1 := hk 1 r
  have R2 := hk 2 r
  have R3 := hk 3 r
  have R4 := hk 4 r
  have R5 := hk 5 r
  have R6 := hk 6 r
  have R7 := hk 7 r
  have R8 := hk 8 r
  have R9 := hk 9 r
  have R10 := hk 10 r
  have R11 := hk 11 r
  have R12 := hk 12 r
  have R13 := hk 13 r
  simp [pv_bk, hcr, hcr.symm, show (4 : Nat) ≠ r by omega] at R0 R1 R2 R3 R4 R5 R6 R7 R8 R9 R10 R11 R12 R13
  have H10 := hk 10 4
  simp [pv_bk, show c ≠ 4 by omega, show r ≠ 4 by omega] at H10
  have OO : ∀ d, d < 4 → d ≠ c → d ≠ r → pv_oc kp ow d = pv_oc kp ow d := by
    intro d h4 n0 n1; rfl
  have SS : ∀ d, d < 4 → d ≠ c → d ≠ r → pv_sb sh d = pv_sb sh d := by
    intro d h4 n0 n1; rfl
  have TT : ∀ d, d < 4 → d ≠ c → d ≠ r → st' d = st d := by
    intro d h4 n0 n1; rw [hst d, if_neg n0]
  have LLc : pv_lc (st' c) (fun j => k' j c) (got c) (need c) (pv_oc kp ow c) (pv_sb sh c) := by
    rw [hst c, if_pos rfl]
    rcases sc with e | e | e | e <;> rw [e] at L ⊢ <;> simp [pv_lc] at L ⊢ <;> omega
  have LLr : pv_lc (st' r) (fun j => k' j r) (got r) (need r) (pv_oc kp ow r) (pv_sb sh r) := by
    rw [hst r, if_neg hcr.symm]
    rcases sr with e | e <;> rw [e] at Lr ⊢ <;> simp only [pv_lc] at Lr ⊢ <;> omega
  have LL : ∀ d, d < 4 → pv_lc (st' d) (fun j => k' j d) (got d) (need d) (pv_oc kp ow d) (pv_sb sh d) := by
    intro d h4
    by_cases n0 : d = c
    · subst n0; exact LLc
    by_cases n1 : d = r
    · subst n1; exact LLr
    rw [TT d h4 n0 n1, OO d h4 n0 n1, SS d h4 n0 n1, show (fun j => k' j d) = (fun j => k j d) from funext (K d h4 n0 n1)]
    exact hL d h4
  have X := pv_s4_2 hc hr hcr (f := fun z => pv_xv (st z) (fun j => k j z) (pv_oc kp ow z)) (g := fun z => pv_xv (st' z) (fun j => k' j z) (pv_oc kp ow z)) (fun d h4 n0 n1 => by
    show pv_xv (st' d) (fun j => k' j d) (pv_oc kp ow d) = pv_xv (st d) (fun j => k j d) (pv_oc kp ow d)
    rw [TT d h4 n0 n1, OO d h4 n0 n1, show (fun j => k' j d) = (fun j => k j d) from funext (K d h4 n0 n1)])
  have Y := pv_s4_2 hc hr hcr (f := fun c => k 4 c) (g := fun c => k' 4 c) (fun d h4 n0 n1 => K d h4 n0 n1 4)
  try simp only at X Y
  have xa : pv_xv (st c) (fun j => k j c) (pv_oc kp ow c) = 1 := by rcases sc with e | e | e | e <;> rw [e] at L ⊢ <;> simp only [pv_lc, pv_xv] at L ⊢ <;> omega
  have xb : pv_xv (st' c) (fun j => k' j c) (pv_oc kp ow c) = 0 := by rw [hst c, if_pos rfl]; rcases sc with e | e | e | e <;> rw [e] <;> simp [pv_xv]
  have xc : pv_xv (st r) (fun j => k j r) (pv_oc kp ow r) = k 10 r := by rcases sr with e | e <;> rw [e] <;> simp only [pv_xv]
  have xd : pv_xv (st' r) (fun j => k' j r) (pv_oc kp ow r) = k' 10 r := by rw [hst r, if_neg hcr.symm]; rcases sr with e | e <;> rw [e] <;> simp only [pv_xv]
  rw [xa, xb, xc, xd] at X
  refine ⟨LL, ?_, ?_, ?_, ?_, ?_, ?_, h13⟩
  · omega
  · omega
  · omega
  · omega
  · omega
  · exact hz
set_option maxHeartbeats 4000000 in
theorem pv_t_dr {st st' : Nat → Nat} {k k' : Nat → Nat → Nat} {got need got' need' : Nat → Nat} {kp ow sh c r : Nat} (h : pv_li st k got need kp ow sh) (hc : c < 4) (hr : r < 4) (hcr : c ≠ r) (h1 : 1 ≤ k 8 c) (h2 : 1 ≤ k 9 r) (hs : st c ≠ 4) (hst : ∀ d, st' d = if d = c then (if st c = 7 then 5 else if st c = 11 then 12 else 0) else st d) (hk : ∀ j d, k' j d + pv_bk j d 7 c r 0 = k j d + pv_bk j d 11 r r 0) (h13 : ∀ d, k' 13 d ≤ 3 * k' 10 d) : pv_li st' k' got need kp ow sh := by
  obtain ⟨hL, hX, hF, hkp, how, hsh, hz, h13o⟩ := h
  have L := hL c hc
  have Lr := hL r hr
  have sc := pv_lc_dq L h1 hs
  have ob := pv_oc_le kp ow c
  have h13r := h13o r
  have K : ∀ d, d < 4 → d ≠ c → d ≠ r → ∀ j, k' j d = k j d := by
    intro d h4 n0 n1 j
    have e := hk j d
    rw [pv_bk_0 (show c ≠ d by omega) (show r ≠ d by omega), pv_bk_0 (show r ≠ d by omega) (show r ≠ d by omega)] at e
    omega
  have C0 := hk 0 c
  have C1 := hk 1 c
  have C2 := hk 2 c
  have C3 := hk 3 c
  have C4 := hk 4 c
  have C5 := hk 5 c
  have C6 := hk 6 c
  have C7 := hk 7 c
  have C8 := hk 8 c
  have C9 := hk 9 c
  have C10 := hk 10 c
  have C11 := hk 11 c
  have C12 := hk 12 c
  have C13 := hk 13 c
  simp [pv_bk, hcr, hcr.symm, show (4 : Nat) ≠ c by omega] at C0 C1 C2 C3 C4 C5 C6 C7 C8 C9 C10 C11 C12 C13
  have R0 := hk 0 r
  have R1 := hk 1 r
  have R2 := hk 2 r
  have R3 := hk 3 r
  have R4 := hk 4 r
  have R5 := hk 5 r
  have R6 := hk 6 r
  have R7 := hk 7 r
  have R8 := hk 8 r
  have R9 := hk 9 r
  have R10 := hk 10 r
  have R11 := hk 11 r
  have R12 := hk 12 r
  have R13 := hk 13 r
  simp [pv_bk, hcr, hcr.symm, show (4 : Nat) ≠ r by omega] at R0 R1 R2 R3 R4 R5 R6 R7 R8 R9 R10 R11 R12 R13
  have H10 := hk 10 4
  simp [pv_bk, show c ≠ 4 by omega, show r ≠ 4 by omega] at H10
  have OO : ∀ d, d < 4 → d ≠ c → d ≠ r → pv_oc kp ow d = pv_oc kp ow d := by
    intro d h4 n0 n1; rfl
  have SS : ∀ d, d < 4 → d ≠ c → d ≠ r → pv_sb sh d = pv_sb sh d := by
    intro d h4 n0 n1; rfl
  have TT : ∀ d, d < 4 → d ≠ c → d ≠ r → st' d = st d := by
    intro d h4 n0 n1; rw [hst d, if_neg n0]
  have LLc : pv_lc (st' c) (fun j => k' j c) (got c) (need c) (pv_oc kp ow c) (pv_sb sh c) := by
    rw [hst c, if_pos rfl]
    rcases sc with e | e | e <;> rw [e] at L ⊢ <;> simp [pv_lc] at L ⊢ <;> omega
  have LLr : pv_lc (st' r) (fun j => k' j r) (got r) (need r) (pv_oc kp ow r) (pv_sb sh r) := by
    rw [hst r, if_neg hcr.symm]
    unfold pv_lc at Lr ⊢
    split at Lr <;> first | exact Lr.elim | ((try dsimp only at *) ; omega)
  have LL : ∀ d, d < 4 → pv_lc (st' d) (fun j => k' j d) (got d) (need d) (pv_oc kp ow d) (pv_sb sh d) := by
    intro d h4
    by_cases n0 : d = c
    · subst n0; exact LLc
    by_cases n1 : d = r
    · subst n1; exact LLr
    rw [TT d h4 n0 n1, OO d h4 n0 n1, SS d h4 n0 n1, show (fun j => k' j d) = (fun j => k j d) from funext (K d h4 n0 n1)]
    exact hL d h4
  have X := pv_s4_2 hc hr hcr (f := fun z => pv_xv (st z) (fun j => k j z) (pv_oc kp ow z)) (g := fun z => pv_xv (st' z) (fun j => k' j z) (pv_oc kp ow z)) (fun d h4 n0 n1 => by
    show pv_xv (st' d) (fun j => k' j d) (pv_oc kp ow d) = pv_xv (st d) (fun j => k j d) (pv_oc kp ow d)
    rw [TT d h4 n0 n1, OO d h4 n0 n1, show (fun j => k' j d) = (fun j => k j d) from funext (K d h4 n0 n1)])
  have Y := pv_s4_2 hc hr hcr (f := fun c => k 4 c) (g := fun c => k' 4 c) (fun d h4 n0 n1 => K d h4 n0 n1 4)
  try simp only at X Y
  have xa : pv_xv (st' c) (fun j => k' j c) (pv_oc kp ow c) = pv_xv (st c) (fun j => k j c) (pv_oc kp ow c) := by rw [hst c, if_pos rfl]; rcases sc with e | e | e <;> rw [e] <;> simp [pv_xv] <;> omega
  have xb : pv_xv (st' r) (fun j => k' j r) (pv_oc kp ow r) = pv_xv (st r) (fun j => k j r) (pv_oc kp ow r) := by rw [hst r, if_neg hcr.symm]; simp only [pv_xv, R4, R5, R10, R11]
  rw [xa, xb] at X
  refine ⟨LL, ?_, ?_, ?_, ?_, ?_, ?_, h13⟩
  · omega
  · omega
  · omega
  · omega
  · omega
  · exact hz
set_option maxHeartbeats 4000000 in
theorem pv_t_lf {st st' : Nat → Nat} {k k' : Nat → Nat → Nat} {got need got' need' : Nat → Nat} {kp ow sh c : Nat} (h : pv_li st k got need kp ow sh) (hc : c < 4) (h1 : 1 ≤ k 3 c) (h2 : k 4 c = 0 ∧ k 5 c = 0 ∧ k 8 c = 0) (hst : ∀ d, st' d = if d = c then 0 else st d) (hk : ∀ j d, k' j d + pv_bk j d 8 c c 0 = k j d + 0) (h13 : ∀ d, k' 13 d ≤ 3 * k' 10 d) : pv_li st' k' got need kp ow sh := by
  obtain ⟨hL, hX, hF, hkp, how, hsh, hz, h13o⟩ := h
  have L := hL c hc
  have s9 := pv_lc_lf L h1
  have K : ∀ d, d < 4 → d ≠ c → ∀ j, k' j d = k j d := by
    intro d h4 n0 j
    have e := hk j d
    rw [pv_bk_0 (show c ≠ d by omega) (show c ≠ d by omega)] at e
    omega
  have C0 := hk 0 c
  have C1 := hk 1 c
  have C2 := hk 2 c
  have C3 := hk 3 c
  have C4 := hk 4 c
  have C5 := hk 5 c
  have C6 := hk 6 c
  have C7 := hk 7 c
  have C8 := hk 8 c
  have C9 := hk 9 c
  have C10 := hk 10 c
  have C11 := hk 11 c
  have C12 := hk 12 c
  have C13 := hk 13 c
  simp [pv_bk, show (4 : Nat) ≠ c by omega] at C0 C1 C2 C3 C4 C5 C6 C7 C8 C9 C10 C11 C12 C13
  have H10 := hk 10 4
  simp [pv_bk, show c ≠ 4 by omega] at H10
  have OO : ∀ d, d < 4 → d ≠ c → pv_oc kp ow d = pv_oc kp ow d := by
    intro d h4 n0; rfl
  have SS : ∀ d, d < 4 → d ≠ c → pv_sb sh d = pv_sb sh d := by
    intro d h4 n0; rfl
  have TT : ∀ d, d < 4 → d ≠ c → st' d = st d := by
    intro d h4 n0; rw [hst d, if_neg n0]
  have LLc : pv_lc (st' c) (fun j => k' j c) (got c) (need c) (pv_oc kp ow c) (pv_sb sh c) := by
    rw [hst c, if_pos rfl]
    rcases s9 with e | e | e | e <;> rw [e] at L <;> simp only [pv_lc] at L ⊢ <;> omega
  have LL : ∀ d, d < 4 → pv_lc (st' d) (fun j => k' j d) (got d) (need d) (pv_oc kp ow d) (pv_sb sh d) := by
    intro d h4
    by_cases n0 : d = c
    · subst n0; exact LLc
    rw [TT d h4 n0, OO d h4 n0, SS d h4 n0, show (fun j => k' j d) = (fun j => k j d) from funext (K d h4 n0)]
    exact hL d h4
  have X := pv_s4_1 hc (f := fun z => pv_xv (st z) (fun j => k j z) (pv_oc kp ow z)) (g := fun z => pv_xv (st' z) (fun j => k' j z) (pv_oc kp ow z)) (fun d h4 n0 => by
    show pv_xv (st' d) (fun j => k' j d) (pv_oc kp ow d) = pv_xv (st d) (fun j => k j d) (pv_oc kp ow d)
    rw [TT d h4 n0, OO d h4 n0, show (fun j => k' j d) = (fun j => k j d) from funext (K d h4 n0)])
  have Y := pv_s4_1 hc (f := fun c => k 4 c) (g := fun c => k' 4 c) (fun d h4 n0 => K d h4 n0 4)
  try simp only at X Y
  have xa : pv_xv (st c) (fun j => k j c) (pv_oc kp ow c) = 0 := by rcases s9 with e | e | e | e <;> rw [e] at L ⊢ <;> simp only [pv_lc, pv_xv] at L ⊢ <;> omega
  have xb : pv_xv (st' c) (fun j => k' j c) (pv_oc kp ow c) = 0 := by rw [hst c, if_pos rfl]; simp only [pv_xv]
  rw [xa, xb] at X
  refine ⟨LL, ?_, ?_, ?_, ?_, ?_, ?_, h13⟩
  · omega
  · omega
  · omega
  · omega
  · omega
  · exact hz
set_option maxHeartbeats 4000000 in
theorem pv_t_da4 {st st' : Nat → Nat} {k k' : Nat → Nat → Nat} {got need got' need' : Nat → Nat} {kp ow sh c n : Nat} (h : pv_li st k got need kp ow sh) (hc : c < 4) (h1 : 1 ≤ k 10 c) (h4 : st c = 4) (hst : ∀ d, st' d = if d = c then 1 else st d) (hk : ∀ j d, k' j d + pv_bk j d 9 c c n = k j d + 0) (h13 : ∀ d, k' 13 d ≤ 3 * k' 10 d) : pv_li st' k' got need kp ow sh := by
  obtain ⟨hL, hX, hF, hkp, how, hsh, hz, h13o⟩ := h
  have L := hL c hc
  rw [h4] at L
  simp only [pv_lc] at L
  have K : ∀ d, d < 4 → d ≠ c → ∀ j, k' j d = k j d := by
    intro d h4 n0 j
    have e := hk j d
    rw [pv_bk_0 (show c ≠ d by omega) (show c ≠ d by omega)] at e
    omega
  have C0 := hk 0 c
  have C1 := hk 1 c
  have C2 := hk 2 c
  have C3 := hk 3 c
  have C4 := hk 4 c
  have C5 := hk 5 c
  have C6 := hk 6 c
  have C7 := hk 7 c
  have C8 := hk 8 c
  have C9 := hk 9 c
  have C10 := hk 10 c
  have C11 := hk 11 c
  have C12 := hk 12 c
  have C13 := hk 13 c
  simp [pv_bk, show (4 : Nat) ≠ c by omega] at C0 C1 C2 C3 C4 C5 C6 C7 C8 C9 C10 C11 C12 C13
  have H10 := hk 10 4
  simp [pv_bk, show c ≠ 4 by omega] at H10
  have OO : ∀ d, d < 4 → d ≠ c → pv_oc kp ow d = pv_oc kp ow d := by
    intro d h4 n0; rfl
  have SS : ∀ d, d < 4 → d ≠ c → pv_sb sh d = pv_sb sh d := by
    intro d h4 n0; rfl
  have TT : ∀ d, d < 4 → d ≠ c → st' d = st d := by
    intro d h4 n0; rw [hst d, if_neg n0]
  have LLc : pv_lc (st' c) (fun j => k' j c) (got c) (need c) (pv_oc kp ow c) (pv_sb sh c) := by
    rw [hst c, if_pos rfl]
    simp only [pv_lc]
    omega
  have LL : ∀ d, d < 4 → pv_lc (st' d) (fun j => k' j d) (got d) (need d) (pv_oc kp ow d) (pv_sb sh d) := by
    intro d h4
    by_cases n0 : d = c
    · subst n0; exact LLc
    rw [TT d h4 n0, OO d h4 n0, SS d h4 n0, show (fun j => k' j d) = (fun j => k j d) from funext (K d h4 n0)]
    exact hL d h4
  have X := pv_s4_1 hc (f := fun z => pv_xv (st z) (fun j => k j z) (pv_oc kp ow z)) (g := fun z => pv_xv (st' z) (fun j => k' j z) (pv_oc kp ow z)) (fun d h4 n0 => by
    show pv_xv (st' d) (fun j => k' j d) (pv_oc kp ow d) = pv_xv (st d) (fun j => k j d) (pv_oc kp ow d)
    rw [TT d h4 n0, OO d h4 n0, show (fun j => k' j d) = (fun j => k j d) from funext (K d h4 n0)])
  have Y := pv_s4_1 hc (f := fun c => k 4 c) (g := fun c => k' 4 c) (fun d h4 n0 => K d h4 n0 4)
  try simp only at X Y
  have xa : pv_xv (st c) (fun j => k j c) (pv_oc kp ow c) = k 11 c := by rw [h4]; simp only [pv_xv]
  have xb : pv_xv (st' c) (fun j => k' j c) (pv_oc kp ow c) = 0 := by rw [hst c, if_pos rfl]; simp only [pv_xv]
  rw [xa, xb] at X
  refine ⟨LL, ?_, ?_, ?_, ?_, ?_, ?_, h13⟩
  · omega
  · omega
  · omega
  · omega
  · omega
  · exact hz
set_option maxHeartbeats 4000000 in
theorem pv_t_da5 {st st' : Nat → Nat} {k k' : Nat → Nat → Nat} {got need got' need' : Nat → Nat} {kp ow sh c n : Nat} (h : pv_li st k got need kp ow sh) (hc : c < 4) (h1 : 1 ≤ k 10 c) (h5 : st c = 5 ∨ st c = 7) (hdq : 1 ≤ k 8 c → ∃ d, d < 4 ∧ d ≠ c ∧ 1 ≤ k 9 d) (hst : ∀ d, st' d = if d = c then (if got c = n then 3 else if st c = 7 then 8 else 6) else st d) (hn : ∀ d, need' d = if d = c then n else need d) (hk : ∀ j d, k' j d + pv_bk j d 9 c c n = k j d + 0) (h13 : ∀ d, k' 13 d ≤ 3 * k' 10 d) : pv_li st' k' got need' kp ow sh := by
  obtain ⟨hL, hX, hF, hkp, how, hsh, hz, h13o⟩ := h
  have L := hL c hc
  have h13c := h13 c
  have h13d := h13o c
  have xa : pv_xv (st c) (fun j => k j c) (pv_oc kp ow c) = k 10 c := by rcases h5 with e | e <;> rw [e] <;> simp only [pv_xv]
  have d0 : k 8 c = 0 := by
    by_cases z : k 8 c = 0
    · exact z
    · obtain ⟨d, hd, hdc, h9⟩ := hdq (by omega)
      have Ld := hL d hd
      have sd := pv_lc_ack Ld (by first | omega | (simp only; omega)) (h13o d)
      have xd : 1 ≤ pv_xv (st d) (fun j => k j d) (pv_oc kp ow d) := by
        rcases sd with ⟨e | e, z⟩ | e | e <;> rw [e] <;> simp only [pv_xv] <;> omega
      have := pv_s4_le2 (f := fun c => pv_xv (st c) (fun j => k j c) (pv_oc kp ow c)) hd hc hdc
      try simp only at this
      rw [xa] at this
      omega
  have K : ∀ d, d < 4 → d ≠ c → ∀ j, k' j d = k j d := by
    intro d h4 n0 j
    have e := hk j d
    rw [pv_bk_0 (show c ≠ d by omega) (show c ≠ d by omega)] at e
    omega
  have C0 := hk 0 c
  have C1 := hk 1 c
  have C2 := hk 2 c
  have C3 := hk 3 c
  have C4 := hk 4 c
  have C5 := hk 5 c
  have C6 := hk 6 c
  have C7 := hk 7 c
  have C8 := hk 8 c
  have C9 := hk 9 c
  have C10 := hk 10 c
  have C11 := hk 11 c
  have C12 := hk 12 c
  have C13 := hk 13 c
  simp [pv_bk, show (4 : Nat) ≠ c by omega] at C0 C1 C2 C3 C4 C5 C6 C7 C8 C9 C10 C11 C12 C13
  have H10 := hk 10 4
  simp [pv_bk, show c ≠ 4 by omega] at H10
  have OO : ∀ d, d < 4 → d ≠ c → pv_oc kp ow d = pv_oc kp ow d := by
    intro d h4 n0; rfl
  have SS : ∀ d, d < 4 → d ≠ c → pv_sb sh d = pv_sb sh d := by
    intro d h4 n0; rfl
  have TT : ∀ d, d < 4 → d ≠ c → st' d = st d := by
    intro d h4 n0; rw [hst d, if_neg n0]
  have LLc : pv_lc (st' c) (fun j => k' j c) (got c) (need' c) (pv_oc kp ow c) (pv_sb sh c) := by
    rw [hst c, if_pos rfl, hn c, if_pos rfl]
    split
    · rcases h5 with e | e <;> rw [e] at L <;> simp only [pv_lc] at L ⊢ <;> omega
    · rcases h5 with e | e <;> rw [e] at L <;> simp [pv_lc] at L ⊢ <;> (try rw [e]) <;> simp [pv_lc] <;> omega
  have LL : ∀ d, d < 4 → pv_lc (st' d) (fun j => k' j d) (got d) (need' d) (pv_oc kp ow d) (pv_sb sh d) := by
    intro d h4
    by_cases n0 : d = c
    · subst n0; exact LLc
    rw [TT d h4 n0, OO d h4 n0, SS d h4 n0, show (fun j => k' j d) = (fun j => k j d) from funext (K d h4 n0), hn d, if_neg n0]
    exact hL d h4
  have X := pv_s4_1 hc (f := fun z => pv_xv (st z) (fun j => k j z) (pv_oc kp ow z)) (g := fun z => pv_xv (st' z) (fun j => k' j z) (pv_oc kp ow z)) (fun d h4 n0 => by
    show pv_xv (st' d) (fun j => k' j d) (pv_oc kp ow d) = pv_xv (st d) (fun j => k j d) (pv_oc kp ow d)
    rw [TT d h4 n0, OO d h4 n0, show (fun j => k' j d) = (fun j => k j d) from funext (K d h4 n0)])
  have Y := pv_s4_1 hc (f := fun c => k 4 c) (g := fun c => k' 4 c) (fun d h4 n0 => K d h4 n0 4)
  try simp only at X Y
  have xb : pv_xv (st' c) (fun j => k' j c) (pv_oc kp ow c) = 1 := by
    rw [hst c, if_pos rfl]; split
    · simp only [pv_xv]
    · split <;> simp only [pv_xv]
  have z10 : k 10 c = 1 := by rcases h5 with e | e <;> rw [e] at L <;> simp only [pv_lc] at L <;> omega
  rw [xa, xb] at X
  refine ⟨LL, ?_, ?_, ?_, ?_, ?_, ?_, h13⟩
  · omega
  · omega
  · omega
  · omega
  · omega
  · exact hz
set_option maxHeartbeats 4000000 in
theorem pv_t_so {st st' : Nat → Nat} {k k' : Nat → Nat → Nat} {got need got' need' : Nat → Nat} {kp ow sh c : Nat} (h : pv_li st k got need kp ow sh) (hc : c < 4) (h1 : 1 ≤ k 11 c) (hst : ∀ d, st' d = if d = c then 2 else st d) (hk : ∀ j d, k' j d + pv_bk j d 10 c c 0 = k j d + 0) (h13 : ∀ d, k' 13 d ≤ 3 * k' 10 d) : pv_li st' k' got need kp ow sh := by
  obtain ⟨hL, hX, hF, hkp, how, hsh, hz, h13o⟩ := h
  have L := hL c hc
  have h4 := pv_lc_so L h1
  rw [h4] at L
  simp only [pv_lc] at L
  have K : ∀ d, d < 4 → d ≠ c → ∀ j, k' j d = k j d := by
    intro d h4 n0 j
    have e := hk j d
    rw [pv_bk_0 (show c ≠ d by omega) (show c ≠ d by omega)] at e
    omega
  have C0 := hk 0 c
  have C1 := hk 1 c
  have C2 := hk 2 c
  have C3 := hk 3 c
  have C4 := hk 4 c
  have C5 := hk 5 c
  have C6 := hk 6 c
  have C7 := hk 7 c
  have C8 := hk 8 c
  have C9 := hk 9 c
  have C10 := hk 10 c
  have C11 := hk 11 c
  have C12 := hk 12 c
  have C13 := hk 13 c
  simp [pv_bk, show (4 : Nat) ≠ c by omega] at C0 C1 C2 C3 C4 C5 C6 C7 C8 C9 C10 C11 C12 C13
  have H10 := hk 10 4
  simp [pv_bk, show c ≠ 4 by omega] at H10
  have OO : ∀ d, d < 4 → d ≠ c → pv_oc kp ow d = pv_oc kp ow d := by
    intro d h4 n0; rfl
  have SS : ∀ d, d < 4 → d ≠ c → pv_sb sh d = pv_sb sh d := by
    intro d h4 n0; rfl
  have TT : ∀ d, d < 4 → d ≠ c → st' d = st d := by
    intro d h4 n0; rw [hst d, if_neg n0]
  have LLc : pv_lc (st' c) (fun j => k' j c) (got c) (need c) (pv_oc kp ow c) (pv_sb sh c) := by
    rw [hst c, if_pos rfl]
    simp only [pv_lc]
    omega
  have LL : ∀ d, d < 4 → pv_lc (st' d) (fun j => k' j d) (got d) (need d) (pv_oc kp ow d) (pv_sb sh d) := by
    intro d h4
    by_cases n0 : d = c
    · subst n0; exact LLc
    rw [TT d h4 n0, OO d h4 n0, SS d h4 n0, show (fun j => k' j d) = (fun j => k j d) from funext (K d h4 n0)]
    exact hL d h4
  have X := pv_s4_1 hc (f := fun z => pv_xv (st z) (fun j => k j z) (pv_oc kp ow z)) (g := fun z => pv_xv (st' z) (fun j => k' j z) (pv_oc kp ow z)) (fun d h4 n0 => by
    show pv_xv (st' d) (fun j => k' j d) (pv_oc kp ow d) = pv_xv (st d) (fun j => k j d) (pv_oc kp ow d)
    rw [TT d h4 n0, OO d h4 n0, show (fun j => k' j d) = (fun j => k j d) from funext (K d h4 n0)])
  have Y := pv_s4_1 hc (f := fun c => k 4 c) (g := fun c => k' 4 c) (fun d h4 n0 => K d h4 n0 4)
  try simp only at X Y
  have xa : pv_xv (st c) (fun j => k j c) (pv_oc kp ow c) = k 11 c := by rw [h4]; simp only [pv_xv]
  have xb : pv_xv (st' c) (fun j => k' j c) (pv_oc kp ow c) = 1 := by rw [hst c, if_pos rfl]; simp only [pv_xv]
  rw [xa, xb] at X
  refine ⟨LL, ?_, ?_, ?_, ?_, ?_, ?_, h13⟩
  · omega
  · omega
  · omega
  · omega
  · omega
  · exact hz
set_option maxHeartbeats 4000000 in
theorem pv_t_dd {st st' : Nat → Nat} {k k' : Nat → Nat → Nat} {got need got' need' : Nat → Nat} {kp ow sh c : Nat} (h : pv_li st k got need kp ow sh) (hc : c < 4) (h1 : 1 ≤ k 12 c) (hst : ∀ d, st' d = if d = c then (if (st c = 6 ∨ st c = 8) ∧ got c + 1 = need c then 3 else st c) else st d) (hg : ∀ d, got' d = if d = c then got c + 1 else got d) (hk : ∀ j d, k' j d + pv_bk j d 11 c c 0 = k j d + 0) (h13 : ∀ d, k' 13 d ≤ 3 * k' 10 d) : pv_li st' k' got' need kp ow sh := by
  obtain ⟨hL, hX, hF, hkp, how, hsh, hz, h13o⟩ := h
  have L := hL c hc
  have sa := pv_lc_ack L (by first | omega | (simp only; omega)) (h13o c)
  have sb : st c = 5 ∨ st c = 7 ∨ st c = 6 ∨ st c = 8 := by omega
  have K : ∀ d, d < 4 → d ≠ c → ∀ j, k' j d = k j d := by
    intro d h4 n0 j
    have e := hk j d
    rw [pv_bk_0 (show c ≠ d by omega) (show c ≠ d by omega)] at e
    omega
  have C0 := hk 0 c
  have C1 := hk 1 c
  have C2 := hk 2 c
  have C3 := hk 3 c
  have C4 := hk 4 c
  have C5 := hk 5 c
  have C6 := hk 6 c
  have C7 := hk 7 c
  have C8 := hk 8 c
  have C9 := hk 9 c
  have C10 := hk 10 c
  have C11 := hk 11 c
  have C12 := hk 12 c
  have C13 := hk 13 c
  simp [pv_bk, show (4 : Nat) ≠ c by omega] at C0 C1 C2 C3 C4 C5 C6 C7 C8 C9 C10 C11 C12 C13
  have H10 := hk 10 4
  simp [pv_bk, show c ≠ 4 by omega] at H10
  have OO : ∀ d, d < 4 → d ≠ c → pv_oc kp ow d = pv_oc kp ow d := by
    intro d h4 n0; rfl
  have SS : ∀ d, d < 4 → d ≠ c → pv_sb sh d = pv_sb sh d := by
    intro d h4 n0; rfl
  have TT : ∀ d, d < 4 → d ≠ c → st' d = st d := by
    intro d h4 n0; rw [hst d, if_neg n0]
  have LLc : pv_lc (st' c) (fun j => k' j c) (got' c) (need c) (pv_oc kp ow c) (pv_sb sh c) := by
    rw [hst c, if_pos rfl, hg c, if_pos rfl]
    split
    · rcases sb with e | e | e | e <;> rw [e] at L <;> simp only [pv_lc] at L ⊢ <;> omega
    · rcases sb with e | e | e | e <;> rw [e] at L ⊢ <;> simp only [pv_lc] at L ⊢ <;> omega
  have LL : ∀ d, d < 4 → pv_lc (st' d) (fun j => k' j d) (got' d) (need d) (pv_oc kp ow d) (pv_sb sh d) := by
    intro d h4
    by_cases n0 : d = c
    · subst n0; exact LLc
    rw [TT d h4 n0, OO d h4 n0, SS d h4 n0, show (fun j => k' j d) = (fun j => k j d) from funext (K d h4 n0), hg d, if_neg n0]
    exact hL d h4
  have X := pv_s4_1 hc (f := fun z => pv_xv (st z) (fun j => k j z) (pv_oc kp ow z)) (g := fun z => pv_xv (st' z) (fun j => k' j z) (pv_oc kp ow z)) (fun d h4 n0 => by
    show pv_xv (st' d) (fun j => k' j d) (pv_oc kp ow d) = pv_xv (st d) (fun j => k j d) (pv_oc kp ow d)
    rw [TT d h4 n0, OO d h4 n0, show (fun j => k' j d) = (fun j => k j d) from funext (K d h4 n0)])
  have Y := pv_s4_1 hc (f := fun c => k 4 c) (g := fun c => k' 4 c) (fun d h4 n0 => K d h4 n0 4)
  try simp only at X Y
  have xa : pv_xv (st' c) (fun j => k' j c) (pv_oc kp ow c) = pv_xv (st c) (fun j => k j c) (pv_oc kp ow c) := by
    rw [hst c, if_pos rfl]; split
    · next z => rcases z.1 with e | e <;> rw [e] <;> simp only [pv_xv]
    · simp only [pv_xv, C4, C5, C10, C11]
  rw [xa] at X
  refine ⟨LL, ?_, ?_, ?_, ?_, ?_, ?_, h13⟩
  · omega
  · omega
  · omega
  · omega
  · omega
  · exact hz
end
section
/-! The abstract value: (messages, Int32 numbers, Nat numbers).
Int32: 0 tally (core, line) 1 value (core, line) 2 operand 3 finished 4 result (core, 0) 5 memory (0, line)
Nat: 0 state 1 got 2 needed (core, line) 3 waits 4 operation (core, 0) 5 keeping 6 owner 7 sharers (0, line) -/
abbrev pv_Msg : Type := Nat × Nat × Nat × Nat × Nat × Nat × Int32
def mkd (m : pv_Msg) : Nat := m.1
def mln (m : pv_Msg) : Nat := m.2.1
def msn (m : pv_Msg) : Nat := m.2.2.1
def mto (m : pv_Msg) : Nat := m.2.2.2.1
def mrq (m : pv_Msg) : Nat := m.2.2.2.2.1
def mnm (m : pv_Msg) : Nat := m.2.2.2.2.2.1
def mcv (m : pv_Msg) : Int32 := m.2.2.2.2.2.2
abbrev pv_V : Type := List pv_Msg × (Nat → Nat → Nat → Int32) × (Nat → Nat → Nat → Nat)
def pv_u3 {α : Type} (f : Nat → Nat → Nat → α) (t c l : Nat) (x : α) : Nat → Nat → Nat → α := fun t' c' l' => if t' = t ∧ c' = c ∧ l' = l then x else f t' c' l'
def pv_sI (v : pv_V) (t c l : Nat) (x : Int32) : pv_V := (v.1, pv_u3 v.2.1 t c l x, v.2.2)
def pv_sN (v : pv_V) (t c l x : Nat) : pv_V := (v.1, v.2.1, pv_u3 v.2.2 t c l x)
def pv_snd (v : pv_V) (m : pv_Msg) : pv_V := (v.1 ++ [m], pv_u3 v.2.1 0 (mrq m) (mln m) (if mkd m ≤ 4 then 1 else v.2.1 0 (mrq m) (mln m) + 1), v.2.2)
def pv_del (v : pv_V) (k : Nat) : pv_V := (v.1.eraseIdx k, v.2.1, v.2.2)
/-- counters of a line -/
def pv_b1 (j a d : Nat) (m : pv_Msg) : Nat := if mln m = a then pv_bk j d (mkd m) (mto m) (mrq m) (mnm m) else 0
def pv_cn (j a d : Nat) (L : List pv_Msg) : Nat := (L.map (pv_b1 j a d)).sum
theorem pv_cn_app (j a d : Nat) (L K : List pv_Msg) : pv_cn j a d (L ++ K) = pv_cn j a d L + pv_cn j a d K := by
  simp [pv_cn]
theorem pv_cn_one (j a d : Nat) (m : pv_Msg) : pv_cn j a d [m] = pv_b1 j a d m := by
  simp [pv_cn]
theorem pv_cn_nil (j a d : Nat) : pv_cn j a d [] = 0 := rfl
theorem pv_cn_cons (j a d : Nat) (m : pv_Msg) (L : List pv_Msg) : pv_cn j a d (m :: L) = pv_b1 j a d m + pv_cn j a d L := by
  simp [pv_cn]
theorem pv_cn_del (j a d : Nat) : ∀ (L : List pv_Msg) (k : Nat) (m : pv_Msg), L[k]? = some m → pv_cn j a d (L.eraseIdx k) + pv_b1 j a d m = pv_cn j a d L
  | [], k, m, h => by simp at h
  | x :: L, 0, m, h => by
    simp only [List.getElem?_cons_zero, Option.some.injEq] at h
    subst h
    rw [List.eraseIdx_cons_zero, pv_cn_cons]
    omega
  | x :: L, k + 1, m, h => by
    rw [List.getElem?_cons_succ] at h
    rw [List.eraseIdx_cons_succ, pv_cn_cons, pv_cn_cons]
    have := pv_cn_del j a d L k m h
    omega
theorem pv_cn_in {j a d : Nat} {L : List pv_Msg} {m : pv_Msg} (h : m ∈ L) : pv_b1 j a d m ≤ pv_cn j a d L := by
  obtain ⟨k, hk⟩ := List.getElem?_of_mem h
  have := pv_cn_del j a d L k m hk
  omega
theorem pv_cn_ex {j a d : Nat} : ∀ {L : List pv_Msg}, 1 ≤ pv_cn j a d L → ∃ m ∈ L, 1 ≤ pv_b1 j a d m
  | [], h => by simp [pv_cn] at h
  | x :: L, h => by
    rw [pv_cn_cons] at h
    by_cases z : 1 ≤ pv_b1 j a d x
    · exact ⟨x, List.mem_cons_self, z⟩
    · obtain ⟨m, hm, h1⟩ := pv_cn_ex (j := j) (a := a) (d := d) (L := L) (by omega)
      exact ⟨m, List.mem_cons_of_mem _ hm, h1⟩
/-- a message that may be -/
def pv_wf (m : pv_Msg) : Prop := mln m < 4 ∧ mrq m < 4 ∧ mnm m ≤ 3 ∧
  ((mkd m ≤ 4 ∧ mto m = 4 ∧ mnm m = 0) ∨ ((mkd m = 5 ∨ mkd m = 6) ∧ mto m < 4 ∧ mnm m = 0) ∨ (mkd m = 7 ∧ mto m < 4 ∧ mto m ≠ mrq m ∧ mnm m = 0) ∨ (mkd m = 8 ∧ mto m = mrq m ∧ mnm m = 0) ∨ (mkd m = 9 ∧ (mto m = mrq m ∨ (mto m = 4 ∧ mnm m = 0))) ∨ ((mkd m = 10 ∨ mkd m = 11) ∧ mto m = mrq m ∧ mnm m = 0))
def pv_ord (m : pv_Msg) : Prop := 5 ≤ mkd m ∧ mkd m ≤ 8
/-- no FORWARD or DROP waits behind a LEFT to the same core of the same line -/
def pv_rl (m n : pv_Msg) : Prop := ¬ (mkd m = 8 ∧ 5 ≤ mkd n ∧ mkd n ≤ 7 ∧ mln m = mln n ∧ mto m = mto n)
theorem pv_cn_13 {a d : Nat} : ∀ {L : List pv_Msg}, (∀ m ∈ L, pv_wf m) → pv_cn 13 a d L ≤ 3 * pv_cn 10 a d L
  | [], _ => by simp [pv_cn]
  | x :: L, h => by
    have h1 := pv_cn_13 (a := a) (d := d) (L := L) (fun m hm => h m (List.mem_cons_of_mem _ hm))
    have h2 := (h x List.mem_cons_self).2.2.1
    rw [pv_cn_cons, pv_cn_cons]
    have h3 : pv_b1 13 a d x ≤ 3 * pv_b1 10 a d x := by
      simp only [pv_b1, pv_bk]
      split
      · split <;> omega
      · omega
    omega
def pv_LI (a : Nat) (v : pv_V) : Prop := pv_li (fun c => v.2.2 0 c a) (fun j d => pv_cn j a d v.1) (fun c => v.2.2 1 c a) (fun c => v.2.2 2 c a) (v.2.2 5 0 a) (v.2.2 6 0 a) (v.2.2 7 0 a)
/-- a core's one operation -/
def pv_CO (v : pv_V) (c : Nat) : Prop := v.2.2 3 c 0 ≤ 1 ∧ v.2.2 4 c 0 ≤ 2 ∧ (∀ l, l < 4 → 4 ≤ v.2.2 0 c l → v.2.2 0 c l ≤ 8 → v.2.2 3 c 0 = 1) ∧
  (∀ l l', l < 4 → l' < 4 → 4 ≤ v.2.2 0 c l → v.2.2 0 c l ≤ 8 → 4 ≤ v.2.2 0 c l' → v.2.2 0 c l' ≤ 8 → l = l') ∧ (∀ l, l < 4 → v.2.2 0 c l = 4 → v.2.2 4 c 0 = 0)
def pv_Inv (v : pv_V) : Prop := (∀ m ∈ v.1, pv_wf m) ∧ v.1.Pairwise pv_rl ∧ (∀ a, a < 4 → pv_LI a v) ∧ ∀ c, c < 4 → pv_CO v c
/-- two lines that look alike -/
theorem pv_LI_same {a : Nat} {v w : pv_V} (h : pv_LI a v) (h0 : ∀ c, w.2.2 0 c a = v.2.2 0 c a) (h1 : ∀ c, w.2.2 1 c a = v.2.2 1 c a) (h2 : ∀ c, w.2.2 2 c a = v.2.2 2 c a) (h5 : w.2.2 5 0 a = v.2.2 5 0 a) (h6 : w.2.2 6 0 a = v.2.2 6 0 a) (h7 : w.2.2 7 0 a = v.2.2 7 0 a) (hk : ∀ j d, pv_cn j a d w.1 = pv_cn j a d v.1) : pv_LI a w := by
  unfold pv_LI at *
  rw [show (fun c => w.2.2 0 c a) = (fun c => v.2.2 0 c a) from funext h0, show (fun c => w.2.2 1 c a) = (fun c => v.2.2 1 c a) from funext h1, show (fun c => w.2.2 2 c a) = (fun c => v.2.2 2 c a) from funext h2, h5, h6, h7, show (fun j d => pv_cn j a d w.1) = (fun j d => pv_cn j a d v.1) from funext fun j => funext fun d => hk j d]
  exact h
/-! How many messages can wait -/
theorem pv_lc_tot {st : Nat} {k : Nat → Nat} {got need o s : Nat} (h : pv_lc st k got need o s) (h13 : k 13 ≤ 3 * k 10) : k 0 + k 1 + k 2 + k 3 + k 6 + k 7 + k 10 + k 11 + k 9 + k 12 ≤ 1 + 3 * pv_xv st k o := by
  have h12 := pv_lc_le h
  rcases (show st = 0 ∨ st = 1 ∨ st = 2 ∨ st = 3 ∨ st = 4 ∨ st = 5 ∨ st = 6 ∨ st = 7 ∨ st = 8 ∨ st = 9 ∨ st = 10 ∨ st = 11 ∨ st = 12 by omega) with rfl | rfl | rfl | rfl | rfl | rfl | rfl | rfl | rfl | rfl | rfl | rfl | rfl <;> simp only [pv_lc, pv_xv] at h ⊢ <;> omega
def pv_kk (k : Nat → Nat → Nat) (c : Nat) : Nat := k 0 c + k 1 c + k 2 c + k 3 c + k 6 c + k 7 c + k 10 c + k 11 c + k 9 c + k 12 c
theorem pv_li_tot {st : Nat → Nat} {k : Nat → Nat → Nat} {got need : Nat → Nat} {kp ow sh : Nat} (h : pv_li st k got need kp ow sh) : pv_s4 (pv_kk k) + k 10 4 ≤ 7 := by
  obtain ⟨hL, hX, hF, hkp, how, hsh, hz, h13⟩ := h
  have t0 := pv_lc_tot (hL 0 (by omega)) (h13 0)
  have t1 := pv_lc_tot (hL 1 (by omega)) (h13 1)
  have t2 := pv_lc_tot (hL 2 (by omega)) (h13 2)
  have t3 := pv_lc_tot (hL 3 (by omega)) (h13 3)
  simp only [pv_s4, pv_kk] at *
  omega
def pv_tl (a : Nat) (L : List pv_Msg) : Nat := pv_s4 (pv_kk (fun j d => pv_cn j a d L)) + pv_cn 10 a 4 L
theorem pv_tl_cons (a : Nat) (m : pv_Msg) (L : List pv_Msg) : pv_tl a (m :: L) = pv_tl a [m] + pv_tl a L := by
  simp only [pv_tl, pv_s4, pv_kk, pv_cn_cons, pv_cn_nil]
  omega
theorem pv_tl_one {m : pv_Msg} (h : pv_wf m) (a : Nat) : pv_tl a [m] = if mln m = a then 1 else 0 := by
  simp only [pv_tl, pv_s4, pv_kk, pv_cn_one, pv_b1]
  split
  · obtain ⟨h1, h2, h3, h4⟩ := h
    generalize mkd m = kd at *
    generalize mto m = to at *
    generalize mrq m = rq at *
    generalize mnm m = n at *
    rcases h4 with ⟨h4, rfl, h5⟩ | ⟨h4, h6, h5⟩ | ⟨rfl, h6, h7, h5⟩ | ⟨rfl, rfl, h5⟩ | ⟨rfl, rfl | ⟨rfl, h5⟩⟩ | ⟨h4, rfl, h5⟩
    · rcases (show kd = 0 ∨ kd = 1 ∨ kd = 2 ∨ kd = 3 ∨ kd = 4 by omega) with rfl | rfl | rfl | rfl | rfl <;> rcases (show rq = 0 ∨ rq = 1 ∨ rq = 2 ∨ rq = 3 by omega) with rfl | rfl | rfl | rfl <;> simp [pv_bk]
    · rcases h4 with rfl | rfl <;> rcases (show rq = 0 ∨ rq = 1 ∨ rq = 2 ∨ rq = 3 by omega) with rfl | rfl | rfl | rfl <;> simp [pv_bk]
    · rcases (show rq = 0 ∨ rq = 1 ∨ rq = 2 ∨ rq = 3 by omega) with rfl | rfl | rfl | rfl <;> simp [pv_bk]
    · rcases (show to = 0 ∨ to = 1 ∨ to = 2 ∨ to = 3 by omega) with rfl | rfl | rfl | rfl <;> simp [pv_bk]
    · rcases (show to = 0 ∨ to = 1 ∨ to = 2 ∨ to = 3 by omega) with rfl | rfl | rfl | rfl <;> simp [pv_bk]
    · simp [pv_bk]
    · rcases h4 with rfl | rfl <;> rcases (show to = 0 ∨ to = 1 ∨ to = 2 ∨ to = 3 by omega) with rfl | rfl | rfl | rfl <;> simp [pv_bk]
  · simp
theorem pv_len : ∀ {L : List pv_Msg}, (∀ m ∈ L, pv_wf m) → L.length = pv_tl 0 L + pv_tl 1 L + pv_tl 2 L + pv_tl 3 L
  | [], _ => by simp [pv_tl, pv_s4, pv_kk, pv_cn]
  | x :: L, h => by
    have h1 := pv_len (L := L) (fun m hm => h m (List.mem_cons_of_mem _ hm))
    have h2 := h x List.mem_cons_self
    have h3 := h2.1
    rw [List.length_cons, h1, pv_tl_cons 0, pv_tl_cons 1, pv_tl_cons 2, pv_tl_cons 3, pv_tl_one h2, pv_tl_one h2, pv_tl_one h2, pv_tl_one h2]
    rcases (show mln x = 0 ∨ mln x = 1 ∨ mln x = 2 ∨ mln x = 3 by omega) with e | e | e | e <;> rw [e] <;> simp <;> omega
theorem pv_Inv_len {v : pv_V} (h : pv_Inv v) : v.1.length ≤ 28 := by
  have t0 := pv_li_tot (h.2.2.1 0 (by omega))
  have t1 := pv_li_tot (h.2.2.1 1 (by omega))
  have t2 := pv_li_tot (h.2.2.1 2 (by omega))
  have t3 := pv_li_tot (h.2.2.1 3 (by omega))
  have := pv_len h.1
  simp only [pv_tl] at this
  omega
/-! Steps of the abstract value, and that they keep the invariant -/
theorem pv_wf_step {L N : List pv_Msg} {k : Nat} (h : ∀ m ∈ L, pv_wf m) (hN : ∀ m ∈ N, pv_wf m) : ∀ m ∈ L.eraseIdx k ++ N, pv_wf m := by
  intro m hm
  rcases List.mem_append.mp hm with h1 | h1
  · exact h m (List.mem_of_mem_eraseIdx h1)
  · exact hN m h1
theorem pv_rl_free : ∀ {N : List pv_Msg}, (∀ n ∈ N, mkd n ≠ 8) → N.Pairwise pv_rl
  | [], _ => List.Pairwise.nil
  | x :: N, h => List.Pairwise.cons (fun y _ => fun z => h x List.mem_cons_self z.1) (pv_rl_free (fun n hn => h n (List.mem_cons_of_mem _ hn)))
theorem pv_rl_step {L N : List pv_Msg} {k : Nat} (h : L.Pairwise pv_rl) (hN : N.Pairwise pv_rl) (hx : ∀ n ∈ N, 5 ≤ mkd n → mkd n ≤ 7 → pv_cn 3 (mln n) (mto n) L = 0) : (L.eraseIdx k ++ N).Pairwise pv_rl := by
  refine List.pairwise_append.mpr ⟨h.sublist (List.eraseIdx_sublist ..), hN, fun x hx' y hy => ?_⟩
  rintro ⟨e1, e2, e3, e4, e5⟩
  have h0 := hx y hy e2 e3
  have h1 := pv_cn_in (j := 3) (a := mln y) (d := mto y) (List.mem_of_mem_eraseIdx hx')
  have h2 : pv_b1 3 (mln y) (mto y) x = 1 := by simp [pv_b1, pv_bk, e1, e4, e5]
  omega
theorem pv_cn_step {L N : List pv_Msg} {k : Nat} {m : pv_Msg} (h : L[k]? = some m) (j a d : Nat) : pv_cn j a d (L.eraseIdx k ++ N) + pv_b1 j a d m = pv_cn j a d L + pv_cn j a d N := by
  rw [pv_cn_app]
  have := pv_cn_del j a d L k m h
  omega
theorem pv_b1_is (j a d kd s t r n : Nat) (x : Int32) : pv_b1 j a d (kd, a, s, t, r, n, x) = pv_bk j d kd t r n := by
  simp [pv_b1, mln, mkd, mto, mrq, mnm]
theorem pv_b1_ne (j d kd s t r n : Nat) (x : Int32) {a b : Nat} (h : a ≠ b) : pv_b1 j b d (kd, a, s, t, r, n, x) = 0 := by
  simp [pv_b1, mln, h]
theorem pv_b1_line {j d a b : Nat} {m : pv_Msg} (h : mln m = a) (hb : b ≠ a) : pv_b1 j b d m = 0 := by
  unfold pv_b1
  rw [h, if_neg (Ne.symm hb)]
/-- a core's operation, when one state changes -/
theorem pv_CO_st {v w : pv_V} {c c0 a : Nat} {s' : Nat} (h : pv_CO v c) (h3 : ∀ d, w.2.2 3 d 0 = v.2.2 3 d 0) (h4 : ∀ d, w.2.2 4 d 0 = v.2.2 4 d 0) (h0 : ∀ d l, w.2.2 0 d l = if d = c0 ∧ l = a then s' else v.2.2 0 d l)
    (hs : 4 ≤ s' → s' ≤ 8 → 4 ≤ v.2.2 0 c0 a ∧ v.2.2 0 c0 a ≤ 8 ∧ (s' = 4 → v.2.2 0 c0 a = 4)) : pv_CO w c := by
  obtain ⟨q1, q2, q3, q4, q5⟩ := h
  refine ⟨by rw [h3]; exact q1, by rw [h4]; exact q2, fun l hl e1 e2 => ?_, fun l l' hl hl' e1 e2 e3 e4 => ?_, fun l hl e1 => ?_⟩
  · rw [h0] at e1 e2
    rw [h3]
    split at e1
    · next z => obtain ⟨rfl, rfl⟩ := z; rw [if_pos ⟨rfl, rfl⟩] at e2; have := hs e1 e2; exact q3 l hl this.1 this.2.1
    · next z => rw [if_neg z] at e2; exact q3 l hl e1 e2
  · rw [h0] at e1 e2 e3 e4
    have g1 : 4 ≤ v.2.2 0 c l ∧ v.2.2 0 c l ≤ 8 := by
      split at e1
      · next z => obtain ⟨rfl, rfl⟩ := z; rw [if_pos ⟨rfl, rfl⟩] at e2; have := hs e1 e2; exact ⟨this.1, this.2.1⟩
      · next z => rw [if_neg z] at e2; exact ⟨e1, e2⟩
    have g2 : 4 ≤ v.2.2 0 c l' ∧ v.2.2 0 c l' ≤ 8 := by
      split at e3
      · next z => obtain ⟨rfl, rfl⟩ := z; rw [if_pos ⟨rfl, rfl⟩] at e4; have := hs e3 e4; exact ⟨this.1, this.2.1⟩
      · next z => rw [if_neg z] at e4; exact ⟨e3, e4⟩
    exact q4 l l' hl hl' g1.1 g1.2 g2.1 g2.2
  · rw [h0] at e1
    rw [h4]
    split at e1
    · next z => obtain ⟨rfl, rfl⟩ := z; exact q5 l hl ((hs (by omega) (by omega)).2.2 e1)
    · next z => exact q5 l hl e1
/-- an operation is done: the one state of 4 .. 8 goes to 1, 2 or 3 -/
theorem pv_CO_fin {v w : pv_V} {c c0 a : Nat} {s' : Nat} (h : pv_CO v c) (ha : a < 4) (h3 : ∀ d, w.2.2 3 d 0 = if d = c0 then 0 else v.2.2 3 d 0) (h4 : ∀ d, w.2.2 4 d 0 = v.2.2 4 d 0) (h0 : ∀ d l, w.2.2 0 d l = if d = c0 ∧ l = a then s' else v.2.2 0 d l)
    (hs : s' ≤ 3) (hv : v.2.2 3 c0 0 = 0 ∨ (4 ≤ v.2.2 0 c0 a ∧ v.2.2 0 c0 a ≤ 8)) : pv_CO w c := by
  obtain ⟨q1, q2, q3, q4, q5⟩ := h
  by_cases hc : c = c0
  · subst hc
    have no : ∀ l, l < 4 → ¬ (4 ≤ w.2.2 0 c l ∧ w.2.2 0 c l ≤ 8) := by
      intro l hl e
      rw [h0] at e
      by_cases z : l = a
      · subst z; rw [if_pos ⟨rfl, rfl⟩] at e; omega
      · rw [if_neg (fun q => z q.2)] at e
        rcases hv with hv | hv
        · have := q3 l hl e.1 e.2; omega
        · exact z (q4 l a hl ha e.1 e.2 hv.1 hv.2)
    refine ⟨by rw [h3, if_pos rfl]; omega, by rw [h4]; exact q2, fun l hl e1 e2 => absurd ⟨e1, e2⟩ (no l hl), fun l l' hl hl' e1 e2 e3 e4 => absurd ⟨e1, e2⟩ (no l hl), fun l hl e1 => absurd (show 4 ≤ w.2.2 0 c l ∧ w.2.2 0 c l ≤ 8 by omega) (no l hl)⟩
  · have e0 : ∀ l, w.2.2 0 c l = v.2.2 0 c l := fun l => by rw [h0, if_neg (fun q => hc q.1)]
    refine ⟨by rw [h3, if_neg hc]; exact q1, by rw [h4]; exact q2, fun l hl => ?_, fun l l' hl hl' => ?_, fun l hl => ?_⟩
    · rw [e0, h3, if_neg hc]; exact q3 l hl
    · rw [e0, e0]; exact q4 l l' hl hl'
    · rw [e0, h4]; exact q5 l hl
/-- an operation begins -/
theorem pv_CO_go {v w : pv_V} {c c0 a o : Nat} {s' : Nat} (h : pv_CO v c) (h3 : ∀ d, w.2.2 3 d 0 = if d = c0 then 1 else v.2.2 3 d 0) (h4 : ∀ d, w.2.2 4 d 0 = if d = c0 then o else v.2.2 4 d 0) (h0 : ∀ d l, w.2.2 0 d l = if d = c0 ∧ l = a then s' else v.2.2 0 d l)
    (ho : o ≤ 2) (hs : s' = 4 → o = 0) (hv : v.2.2 3 c0 0 = 0) : pv_CO w c := by
  obtain ⟨q1, q2, q3, q4, q5⟩ := h
  by_cases hc : c = c0
  · subst hc
    have no : ∀ l, l < 4 → l ≠ a → ¬ (4 ≤ w.2.2 0 c l ∧ w.2.2 0 c l ≤ 8) := by
      intro l hl z e
      rw [h0, if_neg (fun q => z q.2)] at e
      have := q3 l hl e.1 e.2
      omega
    refine ⟨by rw [h3, if_pos rfl]; omega, by rw [h4, if_pos rfl]; exact ho, fun l hl e1 e2 => by rw [h3, if_pos rfl], fun l l' hl hl' e1 e2 e3 e4 => ?_, fun l hl e1 => ?_⟩
    · by_cases z : l = a
      · by_cases z' : l' = a
        · rw [z, z']
        · exact absurd ⟨e3, e4⟩ (no l' hl' z')
      · exact absurd ⟨e1, e2⟩ (no l hl z)
    · by_cases z : l = a
      · subst z; rw [h0, if_pos ⟨rfl, rfl⟩] at e1; rw [h4, if_pos rfl]; exact hs e1
      · exact absurd (show 4 ≤ w.2.2 0 c l ∧ w.2.2 0 c l ≤ 8 by omega) (no l hl z)
  · have e0 : ∀ l, w.2.2 0 c l = v.2.2 0 c l := fun l => by rw [h0, if_neg (fun q => hc q.1)]
    refine ⟨by rw [h3, if_neg hc]; exact q1, by rw [h4, if_neg hc]; exact q2, fun l hl => ?_, fun l l' hl hl' => ?_, fun l hl => ?_⟩
    · rw [e0, h3, if_neg hc]; exact q3 l hl
    · rw [e0, e0]; exact q4 l l' hl hl'
    · rw [e0, h4, if_neg hc]; exact q5 l hl
/-- the operation of a core that begins and is done at once, or is only set -/
theorem pv_CO_op {v w : pv_V} {c c0 a o : Nat} {s' : Nat} (h : pv_CO v c) (h3 : ∀ d, w.2.2 3 d 0 = v.2.2 3 d 0) (h4 : ∀ d, w.2.2 4 d 0 = if d = c0 then o else v.2.2 4 d 0) (h0 : ∀ d l, w.2.2 0 d l = if d = c0 ∧ l = a then s' else v.2.2 0 d l)
    (ho : o ≤ 2) (hs : s' ≤ 3) (hv : v.2.2 3 c0 0 = 0) : pv_CO w c := by
  obtain ⟨q1, q2, q3, q4, q5⟩ := h
  by_cases hc : c = c0
  · subst hc
    have no : ∀ l, l < 4 → ¬ (4 ≤ w.2.2 0 c l ∧ w.2.2 0 c l ≤ 8) := by
      intro l hl e
      rw [h0] at e
      by_cases z : l = a
      · subst z; rw [if_pos ⟨rfl, rfl⟩] at e; omega
      · rw [if_neg (fun q => z q.2)] at e
        have := q3 l hl e.1 e.2
        omega
    refine ⟨by rw [h3]; exact q1, by rw [h4, if_pos rfl]; exact ho, fun l hl e1 e2 => absurd ⟨e1, e2⟩ (no l hl), fun l l' hl hl' e1 e2 e3 e4 => absurd ⟨e1, e2⟩ (no l hl), fun l hl e1 => absurd (show 4 ≤ w.2.2 0 c l ∧ w.2.2 0 c l ≤ 8 by omega) (no l hl)⟩
  · have e0 : ∀ l, w.2.2 0 c l = v.2.2 0 c l := fun l => by rw [h0, if_neg (fun q => hc q.1)]
    refine ⟨by rw [h3]; exact q1, by rw [h4, if_neg hc]; exact q2, fun l hl => ?_, fun l l' hl hl' => ?_, fun l hl => ?_⟩
    · rw [e0, h3]; exact q3 l hl
    · rw [e0, e0]; exact q4 l l' hl hl'
    · rw [e0, h4, if_neg hc]; exact q5 l hl
theorem pv_Inv_mk {v w : pv_V} {a : Nat} (h : pv_Inv v) (hwf : ∀ m ∈ w.1, pv_wf m) (hrl : w.1.Pairwise pv_rl) (ha : pv_LI a w) (hN : ∀ t c l, l ≠ a → t ≠ 3 → t ≠ 4 → w.2.2 t c l = v.2.2 t c l) (hk : ∀ b, b ≠ a → ∀ j d, pv_cn j b d w.1 = pv_cn j b d v.1) (hco : ∀ c, c < 4 → pv_CO w c) : pv_Inv w := by
  refine ⟨hwf, hrl, fun b hb => ?_, hco⟩
  by_cases z : b = a
  · subst z; exact ha
  · exact pv_LI_same (h.2.2.1 b hb) (fun c => hN 0 c b z (by omega) (by omega)) (fun c => hN 1 c b z (by omega) (by omega)) (fun c => hN 2 c b z (by omega) (by omega)) (hN 5 0 b z (by omega) (by omega)) (hN 6 0 b z (by omega) (by omega)) (hN 7 0 b z (by omega) (by omega)) (hk b z)
end
section
-- ===== PART A: goes FIRST, ahead of the names: the tables' words, and 'selects' of the private methods out of them =====
/-- a private method of a class that the tables say can be made, by its rows of tables_1 -/
def lw_okq (q : MethodName × Nat) : Prop := (q.1.cls ≠ "java/lang/invoke/MethodHandle" ∧ q.1.cls ≠ "java/lang/invoke/VarHandle") ∧ Cond.instantiable q.1.cls q.2 ∈ tables_1 ∧ Cond.privateMethod q.1 ∈ tables_1 ∧ Cond.instanceMethod q.1 ∈ tables_1
theorem lw_p0 : lw_okq (⟨"SharerHome$Core", "isStill", "(I)Z"⟩, 10) := ⟨⟨by decide +kernel, by decide +kernel⟩, List.mem_of_getElem? (i := 61) (by decide +kernel), List.mem_of_getElem? (i := 129) (by decide +kernel), List.mem_of_getElem? (i := 130) (by decide +kernel)⟩
theorem lw_p1 : lw_okq (⟨"SharerHome$Core", "isEnough", "(I)Z"⟩, 10) := ⟨⟨by decide +kernel, by decide +kernel⟩, List.mem_of_getElem? (i := 61) (by decide +kernel), List.mem_of_getElem? (i := 133) (by decide +kernel), List.mem_of_getElem? (i := 134) (by decide +kernel)⟩
theorem lw_p2 : lw_okq (⟨"SharerHome$Core", "finish", "(I)V"⟩, 10) := ⟨⟨by decide +kernel, by decide +kernel⟩, List.mem_of_getElem? (i := 61) (by decide +kernel), List.mem_of_getElem? (i := 137) (by decide +kernel), List.mem_of_getElem? (i := 138) (by decide +kernel)⟩
theorem lw_p3 : lw_okq (⟨"SharerHome$Core", "change", "(II)V"⟩, 10) := ⟨⟨by decide +kernel, by decide +kernel⟩, List.mem_of_getElem? (i := 61) (by decide +kernel), List.mem_of_getElem? (i := 141) (by decide +kernel), List.mem_of_getElem? (i := 142) (by decide +kernel)⟩
theorem lw_p4 : lw_okq (⟨"SharerHome$Core", "request", "(I)V"⟩, 10) := ⟨⟨by decide +kernel, by decide +kernel⟩, List.mem_of_getElem? (i := 61) (by decide +kernel), List.mem_of_getElem? (i := 145) (by decide +kernel), List.mem_of_getElem? (i := 146) (by decide +kernel)⟩
theorem lw_p5 : lw_okq (⟨"SharerHome$Core", "sendLeave", "(IIII)V"⟩, 10) := ⟨⟨by decide +kernel, by decide +kernel⟩, List.mem_of_getElem? (i := 61) (by decide +kernel), List.mem_of_getElem? (i := 169) (by decide +kernel), List.mem_of_getElem? (i := 170) (by decide +kernel)⟩
theorem lw_p6 : lw_okq (⟨"SharerHome", "fateOf", "(I)I"⟩, 3) := ⟨⟨by decide +kernel, by decide +kernel⟩, List.mem_of_getElem? (i := 8) (by decide +kernel), List.mem_of_getElem? (i := 181) (by decide +kernel), List.mem_of_getElem? (i := 182) (by decide +kernel)⟩
theorem lw_p7 : lw_okq (⟨"SharerHome$Mail", "isOrdered", "(I)Z"⟩, 3) := ⟨⟨by decide +kernel, by decide +kernel⟩, List.mem_of_getElem? (i := 16) (by decide +kernel), List.mem_of_getElem? (i := 189) (by decide +kernel), List.mem_of_getElem? (i := 190) (by decide +kernel)⟩
theorem lw_p8 : lw_okq (⟨"SharerHome", "isStalled", "(I)Z"⟩, 3) := ⟨⟨by decide +kernel, by decide +kernel⟩, List.mem_of_getElem? (i := 8) (by decide +kernel), List.mem_of_getElem? (i := 193) (by decide +kernel), List.mem_of_getElem? (i := 194) (by decide +kernel)⟩
theorem lw_p9 : lw_okq (⟨"SharerHome", "handOver", "(I)V"⟩, 3) := ⟨⟨by decide +kernel, by decide +kernel⟩, List.mem_of_getElem? (i := 8) (by decide +kernel), List.mem_of_getElem? (i := 209) (by decide +kernel), List.mem_of_getElem? (i := 210) (by decide +kernel)⟩
theorem lw_p10 : lw_okq (⟨"SharerHome$Home", "takeRead", "(II)V"⟩, 5) := ⟨⟨by decide +kernel, by decide +kernel⟩, List.mem_of_getElem? (i := 37) (by decide +kernel), List.mem_of_getElem? (i := 218) (by decide +kernel), List.mem_of_getElem? (i := 219) (by decide +kernel)⟩
theorem lw_p11 : lw_okq (⟨"SharerHome$Home", "makeOwner", "(II)V"⟩, 5) := ⟨⟨by decide +kernel, by decide +kernel⟩, List.mem_of_getElem? (i := 37) (by decide +kernel), List.mem_of_getElem? (i := 223) (by decide +kernel), List.mem_of_getElem? (i := 224) (by decide +kernel)⟩
theorem lw_p12 : lw_okq (⟨"SharerHome$Home", "takeWrite", "(II)V"⟩, 5) := ⟨⟨by decide +kernel, by decide +kernel⟩, List.mem_of_getElem? (i := 37) (by decide +kernel), List.mem_of_getElem? (i := 230) (by decide +kernel), List.mem_of_getElem? (i := 231) (by decide +kernel)⟩
theorem lw_p13 : lw_okq (⟨"SharerHome$Home", "dropOthers", "(II)V"⟩, 5) := ⟨⟨by decide +kernel, by decide +kernel⟩, List.mem_of_getElem? (i := 37) (by decide +kernel), List.mem_of_getElem? (i := 234) (by decide +kernel), List.mem_of_getElem? (i := 235) (by decide +kernel)⟩
theorem lw_p14 : lw_okq (⟨"SharerHome$Home", "takeLeave", "(III)V"⟩, 5) := ⟨⟨by decide +kernel, by decide +kernel⟩, List.mem_of_getElem? (i := 37) (by decide +kernel), List.mem_of_getElem? (i := 244) (by decide +kernel), List.mem_of_getElem? (i := 245) (by decide +kernel)⟩
theorem lw_p15 : lw_okq (⟨"SharerHome$Home", "forgetSharer", "(II)V"⟩, 5) := ⟨⟨by decide +kernel, by decide +kernel⟩, List.mem_of_getElem? (i := 37) (by decide +kernel), List.mem_of_getElem? (i := 248) (by decide +kernel), List.mem_of_getElem? (i := 249) (by decide +kernel)⟩
def lw_privs_1 : List (MethodName × Nat) := [(⟨"SharerHome$Core", "isStill", "(I)Z"⟩, 10), (⟨"SharerHome$Core", "isEnough", "(I)Z"⟩, 10), (⟨"SharerHome$Core", "finish", "(I)V"⟩, 10), (⟨"SharerHome$Core", "change", "(II)V"⟩, 10), (⟨"SharerHome$Core", "request", "(I)V"⟩, 10), (⟨"SharerHome$Core", "sendLeave", "(IIII)V"⟩, 10), (⟨"SharerHome", "fateOf", "(I)I"⟩, 3), (⟨"SharerHome$Mail", "isOrdered", "(I)Z"⟩, 3), (⟨"SharerHome", "isStalled", "(I)Z"⟩, 3), (⟨"SharerHome", "handOver", "(I)V"⟩, 3), (⟨"SharerHome$Home", "takeRead", "(II)V"⟩, 5), (⟨"SharerHome$Home", "makeOwner", "(II)V"⟩, 5), (⟨"SharerHome$Home", "takeWrite", "(II)V"⟩, 5), (⟨"SharerHome$Home", "dropOthers", "(II)V"⟩, 5), (⟨"SharerHome$Home", "takeLeave", "(III)V"⟩, 5), (⟨"SharerHome$Home", "forgetSharer", "(II)V"⟩, 5)]
theorem lw_r1 : ∀ q ∈ lw_privs_1, lw_okq q := List.forall_mem_cons.mpr ⟨lw_p0, List.forall_mem_cons.mpr ⟨lw_p1, List.forall_mem_cons.mpr ⟨lw_p2, List.forall_mem_cons.mpr ⟨lw_p3, List.forall_mem_cons.mpr ⟨lw_p4, List.forall_mem_cons.mpr ⟨lw_p5, List.forall_mem_cons.mpr ⟨lw_p6, List.forall_mem_cons.mpr ⟨lw_p7, List.forall_mem_cons.mpr ⟨lw_p8, List.forall_mem_cons.mpr ⟨lw_p9, List.forall_mem_cons.mpr ⟨lw_p10, List.forall_mem_cons.mpr ⟨lw_p11, List.forall_mem_cons.mpr ⟨lw_p12, List.forall_mem_cons.mpr ⟨lw_p13, List.forall_mem_cons.mpr ⟨lw_p14, List.forall_mem_cons.mpr ⟨lw_p15, fun _ h => absurd h List.not_mem_nil⟩⟩⟩⟩⟩⟩⟩⟩⟩⟩⟩⟩⟩⟩⟩⟩
theorem lw_p16 : lw_okq (⟨"SharerHome$Core", "shareWith", "(II)V"⟩, 10) := ⟨⟨by decide +kernel, by decide +kernel⟩, List.mem_of_getElem? (i := 61) (by decide +kernel), List.mem_of_getElem? (i := 257) (by decide +kernel), List.mem_of_getElem? (i := 258) (by decide +kernel)⟩
theorem lw_p17 : lw_okq (⟨"SharerHome$Core", "isLeavingAlone", "(I)Z"⟩, 10) := ⟨⟨by decide +kernel, by decide +kernel⟩, List.mem_of_getElem? (i := 61) (by decide +kernel), List.mem_of_getElem? (i := 261) (by decide +kernel), List.mem_of_getElem? (i := 262) (by decide +kernel)⟩
theorem lw_p18 : lw_okq (⟨"SharerHome$Core", "yieldTo", "(II)V"⟩, 10) := ⟨⟨by decide +kernel, by decide +kernel⟩, List.mem_of_getElem? (i := 61) (by decide +kernel), List.mem_of_getElem? (i := 265) (by decide +kernel), List.mem_of_getElem? (i := 266) (by decide +kernel)⟩
theorem lw_p19 : lw_okq (⟨"SharerHome$Core", "dropFor", "(II)V"⟩, 10) := ⟨⟨by decide +kernel, by decide +kernel⟩, List.mem_of_getElem? (i := 61) (by decide +kernel), List.mem_of_getElem? (i := 269) (by decide +kernel), List.mem_of_getElem? (i := 270) (by decide +kernel)⟩
theorem lw_p20 : lw_okq (⟨"SharerHome$Core", "takeData", "(III)V"⟩, 10) := ⟨⟨by decide +kernel, by decide +kernel⟩, List.mem_of_getElem? (i := 61) (by decide +kernel), List.mem_of_getElem? (i := 273) (by decide +kernel), List.mem_of_getElem? (i := 274) (by decide +kernel)⟩
theorem lw_p21 : lw_okq (⟨"SharerHome$Core", "ownIfNothingOwed", "(I)V"⟩, 10) := ⟨⟨by decide +kernel, by decide +kernel⟩, List.mem_of_getElem? (i := 61) (by decide +kernel), List.mem_of_getElem? (i := 277) (by decide +kernel), List.mem_of_getElem? (i := 278) (by decide +kernel)⟩
theorem lw_p22 : lw_okq (⟨"SharerHome$Core", "takeDropped", "(I)V"⟩, 10) := ⟨⟨by decide +kernel, by decide +kernel⟩, List.mem_of_getElem? (i := 61) (by decide +kernel), List.mem_of_getElem? (i := 281) (by decide +kernel), List.mem_of_getElem? (i := 282) (by decide +kernel)⟩
theorem lw_p23 : lw_okq (⟨"SharerHome", "oldestToTake", "()I"⟩, 3) := ⟨⟨by decide +kernel, by decide +kernel⟩, List.mem_of_getElem? (i := 8) (by decide +kernel), List.mem_of_getElem? (i := 349) (by decide +kernel), List.mem_of_getElem? (i := 350) (by decide +kernel)⟩
theorem lw_p24 : lw_okq (⟨"SharerHomeModel", "start", "(IIII)I"⟩, 23) := ⟨⟨by decide +kernel, by decide +kernel⟩, List.mem_of_getElem? (i := 353) (by decide +kernel), List.mem_of_getElem? (i := 434) (by decide +kernel), List.mem_of_getElem? (i := 435) (by decide +kernel)⟩
theorem lw_p25 : lw_okq (⟨"SharerHomeModel", "finish", "(II)V"⟩, 23) := ⟨⟨by decide +kernel, by decide +kernel⟩, List.mem_of_getElem? (i := 353) (by decide +kernel), List.mem_of_getElem? (i := 441) (by decide +kernel), List.mem_of_getElem? (i := 442) (by decide +kernel)⟩
theorem lw_p26 : lw_okq (⟨"SharerHomeModel", "send", "(IIIIII)V"⟩, 23) := ⟨⟨by decide +kernel, by decide +kernel⟩, List.mem_of_getElem? (i := 353) (by decide +kernel), List.mem_of_getElem? (i := 445) (by decide +kernel), List.mem_of_getElem? (i := 446) (by decide +kernel)⟩
theorem lw_p27 : lw_okq (⟨"SharerHomeModel", "sendWith", "(IIIIIII)V"⟩, 23) := ⟨⟨by decide +kernel, by decide +kernel⟩, List.mem_of_getElem? (i := 353) (by decide +kernel), List.mem_of_getElem? (i := 449) (by decide +kernel), List.mem_of_getElem? (i := 450) (by decide +kernel)⟩
theorem lw_p28 : lw_okq (⟨"SharerHomeModel", "move", "(I)I"⟩, 23) := ⟨⟨by decide +kernel, by decide +kernel⟩, List.mem_of_getElem? (i := 353) (by decide +kernel), List.mem_of_getElem? (i := 469) (by decide +kernel), List.mem_of_getElem? (i := 470) (by decide +kernel)⟩
theorem lw_p29 : lw_okq (⟨"SharerHomeModel", "keptBack", "(I)Z"⟩, 23) := ⟨⟨by decide +kernel, by decide +kernel⟩, List.mem_of_getElem? (i := 353) (by decide +kernel), List.mem_of_getElem? (i := 473) (by decide +kernel), List.mem_of_getElem? (i := 474) (by decide +kernel)⟩
theorem lw_p30 : lw_okq (⟨"SharerHomeModel", "stalls", "(I)Z"⟩, 23) := ⟨⟨by decide +kernel, by decide +kernel⟩, List.mem_of_getElem? (i := 353) (by decide +kernel), List.mem_of_getElem? (i := 480) (by decide +kernel), List.mem_of_getElem? (i := 481) (by decide +kernel)⟩
theorem lw_p31 : lw_okq (⟨"SharerHomeModel", "strike", "(I)V"⟩, 23) := ⟨⟨by decide +kernel, by decide +kernel⟩, List.mem_of_getElem? (i := 353) (by decide +kernel), List.mem_of_getElem? (i := 494) (by decide +kernel), List.mem_of_getElem? (i := 495) (by decide +kernel)⟩
def lw_privs_2 : List (MethodName × Nat) := [(⟨"SharerHome$Core", "shareWith", "(II)V"⟩, 10), (⟨"SharerHome$Core", "isLeavingAlone", "(I)Z"⟩, 10), (⟨"SharerHome$Core", "yieldTo", "(II)V"⟩, 10), (⟨"SharerHome$Core", "dropFor", "(II)V"⟩, 10), (⟨"SharerHome$Core", "takeData", "(III)V"⟩, 10), (⟨"SharerHome$Core", "ownIfNothingOwed", "(I)V"⟩, 10), (⟨"SharerHome$Core", "takeDropped", "(I)V"⟩, 10), (⟨"SharerHome", "oldestToTake", "()I"⟩, 3), (⟨"SharerHomeModel", "start", "(IIII)I"⟩, 23), (⟨"SharerHomeModel", "finish", "(II)V"⟩, 23), (⟨"SharerHomeModel", "send", "(IIIIII)V"⟩, 23), (⟨"SharerHomeModel", "sendWith", "(IIIIIII)V"⟩, 23), (⟨"SharerHomeModel", "move", "(I)I"⟩, 23), (⟨"SharerHomeModel", "keptBack", "(I)Z"⟩, 23), (⟨"SharerHomeModel", "stalls", "(I)Z"⟩, 23), (⟨"SharerHomeModel", "strike", "(I)V"⟩, 23)]
theorem lw_r2 : ∀ q ∈ lw_privs_2, lw_okq q := List.forall_mem_cons.mpr ⟨lw_p16, List.forall_mem_cons.mpr ⟨lw_p17, List.forall_mem_cons.mpr ⟨lw_p18, List.forall_mem_cons.mpr ⟨lw_p19, List.forall_mem_cons.mpr ⟨lw_p20, List.forall_mem_cons.mpr ⟨lw_p21, List.forall_mem_cons.mpr ⟨lw_p22, List.forall_mem_cons.mpr ⟨lw_p23, List.forall_mem_cons.mpr ⟨lw_p24, List.forall_mem_cons.mpr ⟨lw_p25, List.forall_mem_cons.mpr ⟨lw_p26, List.forall_mem_cons.mpr ⟨lw_p27, List.forall_mem_cons.mpr ⟨lw_p28, List.forall_mem_cons.mpr ⟨lw_p29, List.forall_mem_cons.mpr ⟨lw_p30, List.forall_mem_cons.mpr ⟨lw_p31, fun _ h => absurd h List.not_mem_nil⟩⟩⟩⟩⟩⟩⟩⟩⟩⟩⟩⟩⟩⟩⟩⟩
theorem lw_p32 : lw_okq (⟨"SharerHomeModel", "toCore", "(IIIIII)V"⟩, 23) := ⟨⟨by decide +kernel, by decide +kernel⟩, List.mem_of_getElem? (i := 353) (by decide +kernel), List.mem_of_getElem? (i := 498) (by decide +kernel), List.mem_of_getElem? (i := 499) (by decide +kernel)⟩
theorem lw_p33 : lw_okq (⟨"SharerHomeModel", "acknowledged", "(II)V"⟩, 23) := ⟨⟨by decide +kernel, by decide +kernel⟩, List.mem_of_getElem? (i := 353) (by decide +kernel), List.mem_of_getElem? (i := 502) (by decide +kernel), List.mem_of_getElem? (i := 503) (by decide +kernel)⟩
theorem lw_p34 : lw_okq (⟨"SharerHomeModel", "toRead", "(II)V"⟩, 23) := ⟨⟨by decide +kernel, by decide +kernel⟩, List.mem_of_getElem? (i := 353) (by decide +kernel), List.mem_of_getElem? (i := 506) (by decide +kernel), List.mem_of_getElem? (i := 507) (by decide +kernel)⟩
theorem lw_p35 : lw_okq (⟨"SharerHomeModel", "toWrite", "(II)V"⟩, 23) := ⟨⟨by decide +kernel, by decide +kernel⟩, List.mem_of_getElem? (i := 353) (by decide +kernel), List.mem_of_getElem? (i := 510) (by decide +kernel), List.mem_of_getElem? (i := 511) (by decide +kernel)⟩
theorem lw_p36 : lw_okq (⟨"SharerHomeModel", "toLeave", "(IIII)V"⟩, 23) := ⟨⟨by decide +kernel, by decide +kernel⟩, List.mem_of_getElem? (i := 353) (by decide +kernel), List.mem_of_getElem? (i := 514) (by decide +kernel), List.mem_of_getElem? (i := 515) (by decide +kernel)⟩
def lw_privs_3 : List (MethodName × Nat) := [(⟨"SharerHomeModel", "toCore", "(IIIIII)V"⟩, 23), (⟨"SharerHomeModel", "acknowledged", "(II)V"⟩, 23), (⟨"SharerHomeModel", "toRead", "(II)V"⟩, 23), (⟨"SharerHomeModel", "toWrite", "(II)V"⟩, 23), (⟨"SharerHomeModel", "toLeave", "(IIII)V"⟩, 23)]
theorem lw_r3 : ∀ q ∈ lw_privs_3, lw_okq q := List.forall_mem_cons.mpr ⟨lw_p32, List.forall_mem_cons.mpr ⟨lw_p33, List.forall_mem_cons.mpr ⟨lw_p34, List.forall_mem_cons.mpr ⟨lw_p35, List.forall_mem_cons.mpr ⟨lw_p36, fun _ h => absurd h List.not_mem_nil⟩⟩⟩⟩⟩
def lw_privs : List (MethodName × Nat) := lw_privs_1 ++ (lw_privs_2 ++ (lw_privs_3))
def lw_tbl : List Cond := k2_sels lw_privs ++ tables_1
theorem lw_privs_ok : ∀ q ∈ lw_privs, lw_okq q := by
  show ∀ q ∈ lw_privs_1 ++ (lw_privs_2 ++ (lw_privs_3)), lw_okq q
  exact List.forall_mem_append.mpr ⟨lw_r1, List.forall_mem_append.mpr ⟨lw_r2, lw_r3⟩⟩
end
section
def R_S : String := "SharerHome"
def R_A : String := "SharerHome$Mail"
def R_C : String := "SharerHome$Core"
def R_H : String := "SharerHome$Home"
def R_M : String := "SharerHomeModel"
def R_J : String := "java/lang/Integer"
def F_S : u_T := fun k => match k with
  | 0 => ("SharerHome", "mail", "LSharerHome$Mail;", true)
  | 1 => ("SharerHome", "cores", "[LSharerHome$Core;", true)
  | _ => ("SharerHome", "home", "LSharerHome$Home;", true)
def t_S : Nat → FieldType := fun k => match k with
  | 0 => .object "SharerHome$Mail"
  | 1 => .array (.object "SharerHome$Core")
  | _ => .object "SharerHome$Home"
theorem n_S : ∀ a, a < 3 → ∀ b, b < 3 → a ≠ b → (F_S a).2.1 ≠ (F_S b).2.1 := by decide +kernel
theorem to_S : ∀ k, k < 3 → parseFieldDescriptor (F_S k).2.2.1 = some (t_S k) := by decide +kernel
def F_A : u_T := fun k => match k with
  | 0 => ("SharerHome$Mail", "parts", "[[I", true)
  | 1 => ("SharerHome$Mail", "tallies", "[[I", true)
  | _ => ("SharerHome$Mail", "count", "I", false)
def t_A : Nat → FieldType := fun k => match k with
  | 0 => .array (.array .int)
  | 1 => .array (.array .int)
  | _ => .int
theorem n_A : ∀ a, a < 3 → ∀ b, b < 3 → a ≠ b → (F_A a).2.1 ≠ (F_A b).2.1 := by decide +kernel
theorem to_A : ∀ k, k < 3 → parseFieldDescriptor (F_A k).2.2.1 = some (t_A k) := by decide +kernel
def F_C : u_T := fun k => match k with
  | 0 => ("SharerHome$Core", "self", "I", true)
  | 1 => ("SharerHome$Core", "mail", "LSharerHome$Mail;", true)
  | 2 => ("SharerHome$Core", "states", "[I", true)
  | 3 => ("SharerHome$Core", "values", "[I", true)
  | 4 => ("SharerHome$Core", "owed", "[I", true)
  | 5 => ("SharerHome$Core", "waiting", "Z", false)
  | 6 => ("SharerHome$Core", "operation", "I", false)
  | 7 => ("SharerHome$Core", "operand", "I", false)
  | 8 => ("SharerHome$Core", "finished", "I", false)
  | _ => ("SharerHome$Core", "latestResult", "I", false)
def t_C : Nat → FieldType := fun k => match k with
  | 0 => .int
  | 1 => .object "SharerHome$Mail"
  | 2 => .array .int
  | 3 => .array .int
  | 4 => .array .int
  | 5 => .boolean
  | 6 => .int
  | 7 => .int
  | 8 => .int
  | _ => .int
theorem n_C : ∀ a, a < 10 → ∀ b, b < 10 → a ≠ b → (F_C a).2.1 ≠ (F_C b).2.1 := by decide +kernel
theorem to_C : ∀ k, k < 10 → parseFieldDescriptor (F_C k).2.2.1 = some (t_C k) := by decide +kernel
def F_H : u_T := fun k => match k with
  | 0 => ("SharerHome$Home", "mail", "LSharerHome$Mail;", true)
  | 1 => ("SharerHome$Home", "memories", "[I", true)
  | 2 => ("SharerHome$Home", "keepings", "[I", true)
  | 3 => ("SharerHome$Home", "owners", "[I", true)
  | _ => ("SharerHome$Home", "sharers", "[I", true)
def t_H : Nat → FieldType := fun k => match k with
  | 0 => .object "SharerHome$Mail"
  | 1 => .array .int
  | 2 => .array .int
  | 3 => .array .int
  | _ => .array .int
theorem n_H : ∀ a, a < 5 → ∀ b, b < 5 → a ≠ b → (F_H a).2.1 ≠ (F_H b).2.1 := by decide +kernel
theorem to_H : ∀ k, k < 5 → parseFieldDescriptor (F_H k).2.2.1 = some (t_H k) := by decide +kernel
def F_M : u_T := fun k => match k with
  | 0 => ("SharerHomeModel", "copy", "[I", true)
  | 1 => ("SharerHomeModel", "content", "[I", true)
  | 2 => ("SharerHomeModel", "needed", "[I", true)
  | 3 => ("SharerHomeModel", "got", "[I", true)
  | 4 => ("SharerHomeModel", "sentSince", "[I", true)
  | 5 => ("SharerHomeModel", "waiting", "[Z", true)
  | 6 => ("SharerHomeModel", "forLine", "[I", true)
  | 7 => ("SharerHomeModel", "operation", "[I", true)
  | 8 => ("SharerHomeModel", "operand", "[I", true)
  | 9 => ("SharerHomeModel", "finished", "[I", true)
  | 10 => ("SharerHomeModel", "latest", "[I", true)
  | 11 => ("SharerHomeModel", "keeping", "[I", true)
  | 12 => ("SharerHomeModel", "owner", "[I", true)
  | 13 => ("SharerHomeModel", "sharers", "[I", true)
  | 14 => ("SharerHomeModel", "cells", "[I", true)
  | 15 => ("SharerHomeModel", "rows", "I", false)
  | 16 => ("SharerHomeModel", "kind", "[I", true)
  | 17 => ("SharerHomeModel", "about", "[I", true)
  | 18 => ("SharerHomeModel", "sender", "[I", true)
  | 19 => ("SharerHomeModel", "receiver", "[I", true)
  | 20 => ("SharerHomeModel", "requester", "[I", true)
  | 21 => ("SharerHomeModel", "number", "[I", true)
  | _ => ("SharerHomeModel", "burden", "[I", true)
def t_M : Nat → FieldType := fun k => match k with
  | 0 => .array .int
  | 1 => .array .int
  | 2 => .array .int
  | 3 => .array .int
  | 4 => .array .int
  | 5 => .array .boolean
  | 6 => .array .int
  | 7 => .array .int
  | 8 => .array .int
  | 9 => .array .int
  | 10 => .array .int
  | 11 => .array .int
  | 12 => .array .int
  | 13 => .array .int
  | 14 => .array .int
  | 15 => .int
  | 16 => .array .int
  | 17 => .array .int
  | 18 => .array .int
  | 19 => .array .int
  | 20 => .array .int
  | 21 => .array .int
  | _ => .array .int
theorem n_M : ∀ a, a < 23 → ∀ b, b < 23 → a ≠ b → (F_M a).2.1 ≠ (F_M b).2.1 := by decide +kernel
theorem to_M : ∀ k, k < 23 → parseFieldDescriptor (F_M k).2.2.1 = some (t_M k) := by decide +kernel
abbrev c_S_init : ByteArray := prog_1_method_1_code
def y_S_init : MethodName := ⟨"SharerHome", "<init>", "()V"⟩
abbrev c_S_load : ByteArray := prog_1_method_2_code
def y_S_load : MethodName := ⟨"SharerHome", "load", "(II)I"⟩
abbrev c_S_store : ByteArray := prog_1_method_3_code
def y_S_store : MethodName := ⟨"SharerHome", "store", "(III)I"⟩
abbrev c_S_add : ByteArray := prog_1_method_4_code
def y_S_add : MethodName := ⟨"SharerHome", "add", "(III)I"⟩
abbrev c_S_leave : ByteArray := prog_1_method_5_code
def y_S_leave : MethodName := ⟨"SharerHome", "leave", "(II)I"⟩
abbrev c_S_deliver : ByteArray := prog_1_method_6_code
def y_S_deliver : MethodName := ⟨"SharerHome", "deliver", "(I)I"⟩
abbrev c_S_message : ByteArray := prog_1_method_7_code
def y_S_message : MethodName := ⟨"SharerHome", "message", "(II)I"⟩
abbrev c_S_carried : ByteArray := prog_1_method_8_code
def y_S_carried : MethodName := ⟨"SharerHome", "carried", "(I)I"⟩
abbrev c_S_state : ByteArray := prog_1_method_9_code
def y_S_state : MethodName := ⟨"SharerHome", "state", "(II)I"⟩
abbrev c_S_value : ByteArray := prog_1_method_10_code
def y_S_value : MethodName := ⟨"SharerHome", "value", "(II)I"⟩
abbrev c_S_due : ByteArray := prog_1_method_11_code
def y_S_due : MethodName := ⟨"SharerHome", "due", "(II)I"⟩
abbrev c_S_home : ByteArray := prog_1_method_12_code
def y_S_home : MethodName := ⟨"SharerHome", "home", "(I)I"⟩
abbrev c_S_memory : ByteArray := prog_1_method_13_code
def y_S_memory : MethodName := ⟨"SharerHome", "memory", "(I)I"⟩
abbrev c_S_waits : ByteArray := prog_1_method_14_code
def y_S_waits : MethodName := ⟨"SharerHome", "waits", "(I)Z"⟩
abbrev c_S_done : ByteArray := prog_1_method_15_code
def y_S_done : MethodName := ⟨"SharerHome", "done", "(I)I"⟩
abbrev c_S_result : ByteArray := prog_1_method_16_code
def y_S_result : MethodName := ⟨"SharerHome", "result", "(I)I"⟩
abbrev c_S_tally : ByteArray := prog_1_method_17_code
def y_S_tally : MethodName := ⟨"SharerHome", "tally", "(II)I"⟩
abbrev c_S_run : ByteArray := prog_1_method_18_code
def y_S_run : MethodName := ⟨"SharerHome", "run", "(I)I"⟩
abbrev c_S_isCore : ByteArray := prog_1_method_19_code
def y_S_isCore : MethodName := ⟨"SharerHome", "isCore", "(I)Z"⟩
abbrev c_S_isLine : ByteArray := prog_1_method_20_code
def y_S_isLine : MethodName := ⟨"SharerHome", "isLine", "(I)Z"⟩
abbrev c_S_isCopy : ByteArray := prog_1_method_21_code
def y_S_isCopy : MethodName := ⟨"SharerHome", "isCopy", "(II)Z"⟩
abbrev c_S_oldestToTake : ByteArray := prog_1_method_22_code
def y_S_oldestToTake : MethodName := ⟨"SharerHome", "oldestToTake", "()I"⟩
abbrev c_S_fateOf : ByteArray := prog_1_method_23_code
def y_S_fateOf : MethodName := ⟨"SharerHome", "fateOf", "(I)I"⟩
abbrev c_S_isStalled : ByteArray := prog_1_method_24_code
def y_S_isStalled : MethodName := ⟨"SharerHome", "isStalled", "(I)Z"⟩
abbrev c_S_handOver : ByteArray := prog_1_method_25_code
def y_S_handOver : MethodName := ⟨"SharerHome", "handOver", "(I)V"⟩
abbrev c_M_init : ByteArray := prog_6_method_1_code
def y_M_init : MethodName := ⟨"SharerHomeModel", "<init>", "()V"⟩
abbrev c_M_isFour : ByteArray := prog_6_method_2_code
def y_M_isFour : MethodName := ⟨"SharerHomeModel", "isFour", "(I)Z"⟩
abbrev c_M_send : ByteArray := prog_6_method_3_code
def y_M_send : MethodName := ⟨"SharerHomeModel", "send", "(IIIIII)V"⟩
abbrev c_M_sendWith : ByteArray := prog_6_method_4_code
def y_M_sendWith : MethodName := ⟨"SharerHomeModel", "sendWith", "(IIIIIII)V"⟩
abbrev c_M_strike : ByteArray := prog_6_method_5_code
def y_M_strike : MethodName := ⟨"SharerHomeModel", "strike", "(I)V"⟩
abbrev c_M_isOrdered : ByteArray := prog_6_method_6_code
def y_M_isOrdered : MethodName := ⟨"SharerHomeModel", "isOrdered", "(I)Z"⟩
abbrev c_M_keptBack : ByteArray := prog_6_method_7_code
def y_M_keptBack : MethodName := ⟨"SharerHomeModel", "keptBack", "(I)Z"⟩
abbrev c_M_digit : ByteArray := prog_6_method_8_code
def y_M_digit : MethodName := ⟨"SharerHomeModel", "digit", "(JI)I"⟩
abbrev c_M_becomes : ByteArray := prog_6_method_9_code
def y_M_becomes : MethodName := ⟨"SharerHomeModel", "becomes", "(II)I"⟩
abbrev c_M_stalls : ByteArray := prog_6_method_10_code
def y_M_stalls : MethodName := ⟨"SharerHomeModel", "stalls", "(I)Z"⟩
abbrev c_M_move : ByteArray := prog_6_method_11_code
def y_M_move : MethodName := ⟨"SharerHomeModel", "move", "(I)I"⟩
abbrev c_M_toRead : ByteArray := prog_6_method_12_code
def y_M_toRead : MethodName := ⟨"SharerHomeModel", "toRead", "(II)V"⟩
abbrev c_M_toWrite : ByteArray := prog_6_method_13_code
def y_M_toWrite : MethodName := ⟨"SharerHomeModel", "toWrite", "(II)V"⟩
abbrev c_M_toLeave : ByteArray := prog_6_method_14_code
def y_M_toLeave : MethodName := ⟨"SharerHomeModel", "toLeave", "(IIII)V"⟩
abbrev c_M_toCore : ByteArray := prog_6_method_15_code
def y_M_toCore : MethodName := ⟨"SharerHomeModel", "toCore", "(IIIIII)V"⟩
abbrev c_M_acknowledged : ByteArray := prog_6_method_16_code
def y_M_acknowledged : MethodName := ⟨"SharerHomeModel", "acknowledged", "(II)V"⟩
abbrev c_M_finish : ByteArray := prog_6_method_17_code
def y_M_finish : MethodName := ⟨"SharerHomeModel", "finish", "(II)V"⟩
abbrev c_M_start : ByteArray := prog_6_method_18_code
def y_M_start : MethodName := ⟨"SharerHomeModel", "start", "(IIII)I"⟩
abbrev c_M_load : ByteArray := prog_6_method_19_code
def y_M_load : MethodName := ⟨"SharerHomeModel", "load", "(II)I"⟩
abbrev c_M_store : ByteArray := prog_6_method_20_code
def y_M_store : MethodName := ⟨"SharerHomeModel", "store", "(III)I"⟩
abbrev c_M_add : ByteArray := prog_6_method_21_code
def y_M_add : MethodName := ⟨"SharerHomeModel", "add", "(III)I"⟩
abbrev c_M_leave : ByteArray := prog_6_method_22_code
def y_M_leave : MethodName := ⟨"SharerHomeModel", "leave", "(II)I"⟩
abbrev c_M_deliver : ByteArray := prog_6_method_23_code
def y_M_deliver : MethodName := ⟨"SharerHomeModel", "deliver", "(I)I"⟩
abbrev c_M_message : ByteArray := prog_6_method_24_code
def y_M_message : MethodName := ⟨"SharerHomeModel", "message", "(II)I"⟩
abbrev c_M_carried : ByteArray := prog_6_method_25_code
def y_M_carried : MethodName := ⟨"SharerHomeModel", "carried", "(I)I"⟩
abbrev c_M_state : ByteArray := prog_6_method_26_code
def y_M_state : MethodName := ⟨"SharerHomeModel", "state", "(II)I"⟩
abbrev c_M_value : ByteArray := prog_6_method_27_code
def y_M_value : MethodName := ⟨"SharerHomeModel", "value", "(II)I"⟩
abbrev c_M_due : ByteArray := prog_6_method_28_code
def y_M_due : MethodName := ⟨"SharerHomeModel", "due", "(II)I"⟩
abbrev c_M_home : ByteArray := prog_6_method_29_code
def y_M_home : MethodName := ⟨"SharerHomeModel", "home", "(I)I"⟩
abbrev c_M_memory : ByteArray := prog_6_method_30_code
def y_M_memory : MethodName := ⟨"SharerHomeModel", "memory", "(I)I"⟩
abbrev c_M_waits : ByteArray := prog_6_method_31_code
def y_M_waits : MethodName := ⟨"SharerHomeModel", "waits", "(I)Z"⟩
abbrev c_M_done : ByteArray := prog_6_method_32_code
def y_M_done : MethodName := ⟨"SharerHomeModel", "done", "(I)I"⟩
abbrev c_M_result : ByteArray := prog_6_method_33_code
def y_M_result : MethodName := ⟨"SharerHomeModel", "result", "(I)I"⟩
abbrev c_M_tally : ByteArray := prog_6_method_34_code
def y_M_tally : MethodName := ⟨"SharerHomeModel", "tally", "(II)I"⟩
abbrev c_M_run : ByteArray := prog_6_method_35_code
def y_M_run : MethodName := ⟨"SharerHomeModel", "run", "(I)I"⟩
abbrev c_C_init : ByteArray := prog_2_method_1_code
def y_C_init : MethodName := ⟨"SharerHome$Core", "<init>", "(ILSharerHome$Mail;)V"⟩
abbrev c_C_start : ByteArray := prog_2_method_2_code
def y_C_start : MethodName := ⟨"SharerHome$Core", "start", "(III)I"⟩
abbrev c_C_giveUp : ByteArray := prog_2_method_3_code
def y_C_giveUp : MethodName := ⟨"SharerHome$Core", "giveUp", "(I)I"⟩
abbrev c_C_stalls : ByteArray := prog_2_method_4_code
def y_C_stalls : MethodName := ⟨"SharerHome$Core", "stalls", "(II)Z"⟩
abbrev c_C_take : ByteArray := prog_2_method_5_code
def y_C_take : MethodName := ⟨"SharerHome$Core", "take", "(I)V"⟩
abbrev c_C_shownValue : ByteArray := prog_2_method_6_code
def y_C_shownValue : MethodName := ⟨"SharerHome$Core", "shownValue", "(I)I"⟩
abbrev c_C_shownOwed : ByteArray := prog_2_method_7_code
def y_C_shownOwed : MethodName := ⟨"SharerHome$Core", "shownOwed", "(I)I"⟩
abbrev c_C_isStill : ByteArray := prog_2_method_8_code
def y_C_isStill : MethodName := ⟨"SharerHome$Core", "isStill", "(I)Z"⟩
abbrev c_C_isEnough : ByteArray := prog_2_method_9_code
def y_C_isEnough : MethodName := ⟨"SharerHome$Core", "isEnough", "(I)Z"⟩
abbrev c_C_request : ByteArray := prog_2_method_10_code
def y_C_request : MethodName := ⟨"SharerHome$Core", "request", "(I)V"⟩
abbrev c_C_sendLeave : ByteArray := prog_2_method_11_code
def y_C_sendLeave : MethodName := ⟨"SharerHome$Core", "sendLeave", "(IIII)V"⟩
abbrev c_C_shareWith : ByteArray := prog_2_method_12_code
def y_C_shareWith : MethodName := ⟨"SharerHome$Core", "shareWith", "(II)V"⟩
abbrev c_C_yieldTo : ByteArray := prog_2_method_13_code
def y_C_yieldTo : MethodName := ⟨"SharerHome$Core", "yieldTo", "(II)V"⟩
abbrev c_C_isLeavingAlone : ByteArray := prog_2_method_14_code
def y_C_isLeavingAlone : MethodName := ⟨"SharerHome$Core", "isLeavingAlone", "(I)Z"⟩
abbrev c_C_dropFor : ByteArray := prog_2_method_15_code
def y_C_dropFor : MethodName := ⟨"SharerHome$Core", "dropFor", "(II)V"⟩
abbrev c_C_takeData : ByteArray := prog_2_method_16_code
def y_C_takeData : MethodName := ⟨"SharerHome$Core", "takeData", "(III)V"⟩
abbrev c_C_takeDropped : ByteArray := prog_2_method_17_code
def y_C_takeDropped : MethodName := ⟨"SharerHome$Core", "takeDropped", "(I)V"⟩
abbrev c_C_ownIfNothingOwed : ByteArray := prog_2_method_18_code
def y_C_ownIfNothingOwed : MethodName := ⟨"SharerHome$Core", "ownIfNothingOwed", "(I)V"⟩
abbrev c_C_finish : ByteArray := prog_2_method_19_code
def y_C_finish : MethodName := ⟨"SharerHome$Core", "finish", "(I)V"⟩
abbrev c_C_change : ByteArray := prog_2_method_20_code
def y_C_change : MethodName := ⟨"SharerHome$Core", "change", "(II)V"⟩
abbrev c_H_init : ByteArray := prog_3_method_1_code
def y_H_init : MethodName := ⟨"SharerHome$Home", "<init>", "(LSharerHome$Mail;)V"⟩
abbrev c_H_summary : ByteArray := prog_3_method_2_code
def y_H_summary : MethodName := ⟨"SharerHome$Home", "summary", "(I)I"⟩
abbrev c_H_stalls : ByteArray := prog_3_method_3_code
def y_H_stalls : MethodName := ⟨"SharerHome$Home", "stalls", "(II)Z"⟩
abbrev c_H_take : ByteArray := prog_3_method_4_code
def y_H_take : MethodName := ⟨"SharerHome$Home", "take", "(I)V"⟩
abbrev c_H_takeRead : ByteArray := prog_3_method_5_code
def y_H_takeRead : MethodName := ⟨"SharerHome$Home", "takeRead", "(II)V"⟩
abbrev c_H_takeWrite : ByteArray := prog_3_method_6_code
def y_H_takeWrite : MethodName := ⟨"SharerHome$Home", "takeWrite", "(II)V"⟩
abbrev c_H_dropOthers : ByteArray := prog_3_method_7_code
def y_H_dropOthers : MethodName := ⟨"SharerHome$Home", "dropOthers", "(II)V"⟩
abbrev c_H_takeLeave : ByteArray := prog_3_method_8_code
def y_H_takeLeave : MethodName := ⟨"SharerHome$Home", "takeLeave", "(III)V"⟩
abbrev c_H_forgetSharer : ByteArray := prog_3_method_9_code
def y_H_forgetSharer : MethodName := ⟨"SharerHome$Home", "forgetSharer", "(II)V"⟩
abbrev c_H_makeOwner : ByteArray := prog_3_method_10_code
def y_H_makeOwner : MethodName := ⟨"SharerHome$Home", "makeOwner", "(II)V"⟩
abbrev c_H_bit : ByteArray := prog_3_method_11_code
def y_H_bit : MethodName := ⟨"SharerHome$Home", "bit", "(I)I"⟩
abbrev c_A_init : ByteArray := prog_4_method_1_code
def y_A_init : MethodName := ⟨"SharerHome$Mail", "<init>", "()V"⟩
abbrev c_A_has : ByteArray := prog_4_method_2_code
def y_A_has : MethodName := ⟨"SharerHome$Mail", "has", "(I)Z"⟩
abbrev c_A_part : ByteArray := prog_4_method_3_code
def y_A_part : MethodName := ⟨"SharerHome$Mail", "part", "(II)I"⟩
abbrev c_A_send : ByteArray := prog_4_method_4_code
def y_A_send : MethodName := ⟨"SharerHome$Mail", "send", "(IIIIIII)V"⟩
abbrev c_A_remove : ByteArray := prog_4_method_5_code
def y_A_remove : MethodName := ⟨"SharerHome$Mail", "remove", "(I)V"⟩
abbrev c_A_keepsBack : ByteArray := prog_4_method_6_code
def y_A_keepsBack : MethodName := ⟨"SharerHome$Mail", "keepsBack", "(I)Z"⟩
abbrev c_A_isOrdered : ByteArray := prog_4_method_7_code
def y_A_isOrdered : MethodName := ⟨"SharerHome$Mail", "isOrdered", "(I)Z"⟩
abbrev c_J_bitCount : ByteArray := prog_7_method_49_code
def y_J_bitCount : MethodName := ⟨"java/lang/Integer", "bitCount", "(I)I"⟩
/-- all words that hold on and on -/
def zB : List Cond := lw_tbl.filter goodWord
theorem zB_mem {w : Cond} (h : w ∈ lw_tbl) (hg : goodWord w = true) : w ∈ zB := List.mem_filter.mpr ⟨h, hg⟩
theorem zB_tbl {w : Cond} (h : w ∈ zB) : w ∈ lw_tbl := (List.mem_filter.mp h).1
theorem zB_good {w : Cond} (h : w ∈ zB) : (w.onTables && w.keeps) = true ∨ ∃ ty, w = .arrayClass ty := good_of_word (List.mem_filter.mp h).2
theorem u_S_0 : ∀ w ∈ u_ws R_S F_S 3, w ∈ lw_tbl ∧ goodWord w = true := by decide +kernel
theorem u_S : ∀ w ∈ u_ws R_S F_S 3, w ∈ zB := fun w h => zB_mem (u_S_0 w h).1 (u_S_0 w h).2
theorem u_A_0 : ∀ w ∈ u_ws R_A F_A 3, w ∈ lw_tbl ∧ goodWord w = true := by decide +kernel
theorem u_A : ∀ w ∈ u_ws R_A F_A 3, w ∈ zB := fun w h => zB_mem (u_A_0 w h).1 (u_A_0 w h).2
theorem u_C_0 : ∀ w ∈ u_ws R_C F_C 10, w ∈ lw_tbl ∧ goodWord w = true := by decide +kernel
theorem u_C : ∀ w ∈ u_ws R_C F_C 10, w ∈ zB := fun w h => zB_mem (u_C_0 w h).1 (u_C_0 w h).2
theorem u_H_0 : ∀ w ∈ u_ws R_H F_H 5, w ∈ lw_tbl ∧ goodWord w = true := by decide +kernel
theorem u_H : ∀ w ∈ u_ws R_H F_H 5, w ∈ zB := fun w h => zB_mem (u_H_0 w h).1 (u_H_0 w h).2
theorem u_M_0 : ∀ w ∈ u_ws R_M F_M 23, w ∈ lw_tbl ∧ goodWord w = true := by decide +kernel
theorem u_M : ∀ w ∈ u_ws R_M F_M 23, w ∈ zB := fun w h => zB_mem (u_M_0 w h).1 (u_M_0 w h).2
end
