section
/-! The protocol of one line, by counts of its messages: pure arithmetic. -/
/-- what a message (kind, receiver, requester, number) adds to counter j of core d:
0 READ 1 WRITE 2 LEAVE_* (requester); 3 LEFT 4 FORWARD_READ 5 FORWARD_WRITE (receiver); 6 FORWARD_READ 7 FORWARD_WRITE (requester); 8 DROP (receiver) 9 DROP (requester); 10 DATA 11 SOLE_DATA 12 DROPPED (receiver); 13 the numbers of DATA (receiver) -/
def pv_bk (j d kd to rq n : Nat) : Nat := match j with
  | 0 => if kd = 0 ∧ rq = d then 1 else 0
  | 1 => if kd = 1 ∧ rq = d then 1 else 0
  | 2 => if (kd = 2 ∨ kd = 3 ∨ kd = 4) ∧ rq = d then 1 else 0
  | 3 => if kd = 8 ∧ to = d then 1 else 0
  | 4 => if kd = 5 ∧ to = d then 1 else 0
  | 5 => if kd = 6 ∧ to = d then 1 else 0
  | 6 => if kd = 5 ∧ rq = d then 1 else 0
  | 7 => if kd = 6 ∧ rq = d then 1 else 0
  | 8 => if kd = 7 ∧ to = d then 1 else 0
  | 9 => if kd = 7 ∧ rq = d then 1 else 0
  | 10 => if kd = 9 ∧ to = d then 1 else 0
  | 11 => if kd = 10 ∧ to = d then 1 else 0
  | 12 => if kd = 11 ∧ to = d then 1 else 0
  | 13 => if kd = 9 ∧ to = d then n else 0
  | _ => 0
/-- one core: its state, its counters, what it got and needs, whether it is the owner (o), a sharer (s) -/
def pv_lc (st : Nat) (k : Nat → Nat) (got need o s : Nat) : Prop := match st with
  | 0 => k 0 = 0 ∧ k 1 = 0 ∧ k 2 = 0 ∧ k 3 = 0 ∧ k 4 = 0 ∧ k 5 = 0 ∧ k 6 = 0 ∧ k 7 = 0 ∧ k 8 = 0 ∧ k 9 = 0 ∧ k 10 = 0 ∧ k 11 = 0 ∧ k 12 = 0 ∧ o = 0 ∧ s = 0
  | 1 => k 0 = 0 ∧ k 1 = 0 ∧ k 2 = 0 ∧ k 3 = 0 ∧ k 4 = 0 ∧ k 5 = 0 ∧ k 6 = 0 ∧ k 7 = 0 ∧ k 9 = 0 ∧ k 10 = 0 ∧ k 11 = 0 ∧ k 12 = 0 ∧ o = 0 ∧ s + k 8 ≤ 1
  | 2 => k 0 = 0 ∧ k 1 = 0 ∧ k 2 = 0 ∧ k 3 = 0 ∧ k 4 + k 5 + o = 1 ∧ k 6 = 0 ∧ k 7 = 0 ∧ k 8 = 0 ∧ k 9 = 0 ∧ k 10 = 0 ∧ k 11 = 0 ∧ k 12 = 0 ∧ s ≤ k 4
  | 3 => k 0 = 0 ∧ k 1 = 0 ∧ k 2 = 0 ∧ k 3 = 0 ∧ k 4 + k 5 + o = 1 ∧ k 6 = 0 ∧ k 7 = 0 ∧ k 8 = 0 ∧ k 9 = 0 ∧ k 10 = 0 ∧ k 11 = 0 ∧ k 12 = 0 ∧ s ≤ k 4
  | 4 => k 0 + k 10 + k 11 + k 6 = 1 ∧ k 1 = 0 ∧ k 2 = 0 ∧ k 3 = 0 ∧ k 4 + k 5 + o = k 11 ∧ k 7 = 0 ∧ k 8 ≤ k 10 ∧ k 9 = 0 ∧ k 12 = 0 ∧ s + k 8 ≤ 1 ∧ s ≤ k 4 + k 10 + k 6
  | 5 => k 1 + k 10 + k 7 = 1 ∧ k 0 = 0 ∧ k 2 = 0 ∧ k 3 = 0 ∧ k 4 + k 5 + o + k 1 = 1 ∧ k 6 = 0 ∧ k 8 = 0 ∧ k 11 = 0 ∧ s ≤ k 4 ∧ k 13 = got + k 9 + k 12 ∧ need = 0
  | 6 => k 0 = 0 ∧ k 1 = 0 ∧ k 2 = 0 ∧ k 3 = 0 ∧ k 4 + k 5 + o = 1 ∧ k 6 = 0 ∧ k 7 = 0 ∧ k 8 = 0 ∧ k 10 = 0 ∧ k 11 = 0 ∧ s ≤ k 4 ∧ need = got + k 9 + k 12 ∧ 1 ≤ k 9 + k 12 ∧ need ≤ 3
  | 7 => k 1 + k 10 + k 7 = 1 ∧ k 0 = 0 ∧ k 2 = 0 ∧ k 3 = 0 ∧ k 4 + k 5 + o + k 1 = 1 ∧ k 6 = 0 ∧ k 8 ≤ 1 ∧ k 11 = 0 ∧ s ≤ k 4 + k 1 ∧ s + k 8 ≤ 1 + k 4 ∧ k 13 = got + k 9 + k 12 ∧ need = 0
  | 8 => k 0 = 0 ∧ k 1 = 0 ∧ k 2 = 0 ∧ k 3 = 0 ∧ k 4 + k 5 + o = 1 ∧ k 6 = 0 ∧ k 7 = 0 ∧ k 8 = 0 ∧ k 10 = 0 ∧ k 11 = 0 ∧ s ≤ k 4 ∧ need = got + k 9 + k 12 ∧ 1 ≤ k 9 + k 12 ∧ need ≤ 3
  | 9 => k 2 + k 3 = 1 ∧ k 0 = 0 ∧ k 1 = 0 ∧ 1 ≤ k 4 + k 5 + o + k 3 ∧ k 4 + k 5 + o ≤ 1 ∧ o + k 3 ≤ 1 ∧ k 6 = 0 ∧ k 7 = 0 ∧ k 8 = 0 ∧ k 9 = 0 ∧ k 10 = 0 ∧ k 11 = 0 ∧ k 12 = 0 ∧ s ≤ k 4 ∧ s + k 3 ≤ 1
  | 10 => k 2 + k 3 = 1 ∧ k 0 = 0 ∧ k 1 = 0 ∧ 1 ≤ k 4 + k 5 + o + k 3 ∧ k 4 + k 5 + o ≤ 1 ∧ o + k 3 ≤ 1 ∧ k 6 = 0 ∧ k 7 = 0 ∧ k 8 = 0 ∧ k 9 = 0 ∧ k 10 = 0 ∧ k 11 = 0 ∧ k 12 = 0 ∧ s ≤ k 4 ∧ s + k 3 ≤ 1
  | 11 => k 2 + k 3 = 1 ∧ k 0 = 0 ∧ k 1 = 0 ∧ k 4 = 0 ∧ k 5 = 0 ∧ o = 0 ∧ k 6 = 0 ∧ k 7 = 0 ∧ k 8 + s ≤ 1 ∧ s ≤ k 2 ∧ k 9 = 0 ∧ k 10 = 0 ∧ k 11 = 0 ∧ k 12 = 0
  | 12 => k 2 + k 3 = 1 ∧ k 0 = 0 ∧ k 1 = 0 ∧ k 4 = 0 ∧ k 5 = 0 ∧ o = 0 ∧ k 6 = 0 ∧ k 7 = 0 ∧ k 8 = 0 ∧ s = 0 ∧ k 9 = 0 ∧ k 10 = 0 ∧ k 11 = 0 ∧ k 12 = 0
  | _ => False
/-- does this core hold the token (the one copy that may be written), or is it on its way to it -/
def pv_xv (st : Nat) (k : Nat → Nat) (o : Nat) : Nat := match st with
  | 2 => 1
  | 3 => 1
  | 4 => k 11
  | 5 => k 10
  | 6 => 1
  | 7 => k 10
  | 8 => 1
  | 9 => o + k 4 + k 5
  | 10 => o + k 4 + k 5
  | _ => 0
def pv_oc (kp ow c : Nat) : Nat := if kp = 2 ∧ ow = c then 1 else 0
def pv_sb (sh c : Nat) : Nat := sh / 2 ^ c % 2
def pv_s4 (f : Nat → Nat) : Nat := f 0 + f 1 + f 2 + f 3
def pv_k1 (kp : Nat) : Nat := if kp ≤ 1 then 1 else 0
def pv_k3 (kp : Nat) : Nat := if kp = 3 then 1 else 0
def pv_li (st : Nat → Nat) (k : Nat → Nat → Nat) (got need : Nat → Nat) (kp ow sh : Nat) : Prop :=
  (∀ c, c < 4 → pv_lc (st c) (fun j => k j c) (got c) (need c) (pv_oc kp ow c) (pv_sb sh c)) ∧
  pv_s4 (fun c => pv_xv (st c) (fun j => k j c) (pv_oc kp ow c)) + pv_k1 kp + k 10 4 = 1 ∧
  pv_s4 (fun c => k 4 c) + k 10 4 = pv_k3 kp ∧ kp ≤ 3 ∧ ow < 4 ∧ sh < 16 ∧ (kp = 0 ∨ kp = 2 → sh = 0) ∧ (∀ c, k 13 c ≤ 3 * k 10 c)
theorem pv_s4_0 {f g : Nat → Nat} (h : ∀ d, d < 4 → g d = f d) : pv_s4 g = pv_s4 f := by
  simp only [pv_s4, h 0 (by omega), h 1 (by omega), h 2 (by omega), h 3 (by omega)]
theorem pv_s4_1 {f g : Nat → Nat} {c : Nat} (hc : c < 4) (h : ∀ d, d < 4 → d ≠ c → g d = f d) : pv_s4 g + f c = pv_s4 f + g c := by
  have h0 := h 0 (by omega)
  have h1 := h 1 (by omega)
  have h2 := h 2 (by omega)
  have h3 := h 3 (by omega)
  rcases (show c = 0 ∨ c = 1 ∨ c = 2 ∨ c = 3 by omega) with rfl | rfl | rfl | rfl <;> simp only [pv_s4] <;> simp at h0 h1 h2 h3 <;> omega
theorem pv_s4_2 {f g : Nat → Nat} {c r : Nat} (hc : c < 4) (hr : r < 4) (hcr : c ≠ r) (h : ∀ d, d < 4 → d ≠ c → d ≠ r → g d = f d) : pv_s4 g + f c + f r = pv_s4 f + g c + g r := by
  have h0 := h 0 (by omega)
  have h1 := h 1 (by omega)
  have h2 := h 2 (by omega)
  have h3 := h 3 (by omega)
  rcases (show c = 0 ∨ c = 1 ∨ c = 2 ∨ c = 3 by omega) with rfl | rfl | rfl | rfl <;> rcases (show r = 0 ∨ r = 1 ∨ r = 2 ∨ r = 3 by omega) with rfl | rfl | rfl | rfl <;> simp only [pv_s4] <;> simp at hcr h0 h1 h2 h3 <;> omega
theorem pv_s4_le {f : Nat → Nat} {c : Nat} (hc : c < 4) : f c ≤ pv_s4 f := by
  rcases (show c = 0 ∨ c = 1 ∨ c = 2 ∨ c = 3 by omega) with rfl | rfl | rfl | rfl <;> simp only [pv_s4] <;> omega
theorem pv_s4_le2 {f : Nat → Nat} {c r : Nat} (hc : c < 4) (hr : r < 4) (hcr : c ≠ r) : f c + f r ≤ pv_s4 f := by
  rcases (show c = 0 ∨ c = 1 ∨ c = 2 ∨ c = 3 by omega) with rfl | rfl | rfl | rfl <;> rcases (show r = 0 ∨ r = 1 ∨ r = 2 ∨ r = 3 by omega) with rfl | rfl | rfl | rfl <;> simp only [pv_s4] <;> first | omega | exact absurd rfl hcr
theorem pv_lc_congr {st : Nat} {k k' : Nat → Nat} {got need o s : Nat} (h : ∀ j, k' j = k j) (hl : pv_lc st k got need o s) : pv_lc st k' got need o s := by
  have e : k' = k := funext h
  rw [e]; exact hl
theorem pv_lc_le {st : Nat} {k : Nat → Nat} {got need o s : Nat} (h : pv_lc st k got need o s) : st ≤ 12 := by
  unfold pv_lc at h
  split at h <;> first | omega | exact h.elim
/-- what the counters say of the state -/
theorem pv_lc_rd {st : Nat} {k : Nat → Nat} {got need o s : Nat} (h : pv_lc st k got need o s) (hk : 1 ≤ k 0) : st = 4 := by
  unfold pv_lc at h
  split at h <;> first | omega | exact h.elim
theorem pv_lc_wr {st : Nat} {k : Nat → Nat} {got need o s : Nat} (h : pv_lc st k got need o s) (hk : 1 ≤ k 1) : st = 5 ∨ st = 7 := by
  unfold pv_lc at h
  split at h <;> first | omega | exact h.elim
theorem pv_lc_lv {st : Nat} {k : Nat → Nat} {got need o s : Nat} (h : pv_lc st k got need o s) (hk : 1 ≤ k 2) : st = 9 ∨ st = 10 ∨ st = 11 ∨ st = 12 := by
  unfold pv_lc at h
  split at h <;> first | omega | exact h.elim
theorem pv_lc_lf {st : Nat} {k : Nat → Nat} {got need o s : Nat} (h : pv_lc st k got need o s) (hk : 1 ≤ k 3) : st = 9 ∨ st = 10 ∨ st = 11 ∨ st = 12 := by
  unfold pv_lc at h
  split at h <;> first | omega | exact h.elim
theorem pv_lc_frg {st : Nat} {k : Nat → Nat} {got need o s : Nat} (h : pv_lc st k got need o s) (hk : 1 ≤ k 6) : st = 4 := by
  unfold pv_lc at h
  split at h <;> first | omega | exact h.elim
theorem pv_lc_fwg {st : Nat} {k : Nat → Nat} {got need o s : Nat} (h : pv_lc st k got need o s) (hk : 1 ≤ k 7) : st = 5 ∨ st = 7 := by
  unfold pv_lc at h
  split at h <;> first | omega | exact h.elim
/-- a FORWARD that is taken (not stalled) finds a whole copy -/
theorem pv_lc_fq {st : Nat} {k : Nat → Nat} {got need o s : Nat} (h : pv_lc st k got need o s) (hk : 1 ≤ k 4 + k 5) (hs : ¬ (4 ≤ st ∧ st ≤ 8)) : st = 2 ∨ st = 3 ∨ st = 9 ∨ st = 10 := by
  unfold pv_lc at h
  split at h <;> first | omega | exact h.elim
/-- a DROP that is taken finds a shared copy -/
theorem pv_lc_dq {st : Nat} {k : Nat → Nat} {got need o s : Nat} (h : pv_lc st k got need o s) (hk : 1 ≤ k 8) (hs : st ≠ 4) : st = 1 ∨ st = 7 ∨ st = 11 := by
  unfold pv_lc at h
  split at h <;> first | omega | exact h.elim
theorem pv_lc_da {st : Nat} {k : Nat → Nat} {got need o s : Nat} (h : pv_lc st k got need o s) (hk : 1 ≤ k 10) : st = 4 ∨ st = 5 ∨ st = 7 := by
  unfold pv_lc at h
  split at h <;> first | omega | exact h.elim
theorem pv_lc_so {st : Nat} {k : Nat → Nat} {got need o s : Nat} (h : pv_lc st k got need o s) (hk : 1 ≤ k 11) : st = 4 := by
  unfold pv_lc at h
  split at h <;> first | omega | exact h.elim
theorem pv_lc_ack {st : Nat} {k : Nat → Nat} {got need o s : Nat} (h : pv_lc st k got need o s) (hk : 1 ≤ k 9 + k 12) (h13 : k 13 ≤ 3 * k 10) : ((st = 5 ∨ st = 7) ∧ 1 ≤ k 10) ∨ st = 6 ∨ st = 8 := by
  unfold pv_lc at h
  split at h <;> first | omega | exact h.elim
end
section
theorem pv_bk_0 {j d kd to rq n : Nat} (h1 : to ≠ d) (h2 : rq ≠ d) : pv_bk j d kd to rq n = 0 := by
  unfold pv_bk
  split <;> simp [h1, h2]
theorem pv_oc_le (kp ow c : Nat) : pv_oc kp ow c ≤ 1 := by unfold pv_oc; split <;> omega
theorem pv_sb_le (sh c : Nat) : pv_sb sh c ≤ 1 := by unfold pv_sb; omega
set_option maxHeartbeats 4000000 in
theorem pv_t_rd {st st' : Nat → Nat} {k k' : Nat → Nat → Nat} {got need got' need' : Nat → Nat} {kp ow sh c : Nat} (h : pv_li st k got need kp ow sh) (hc : c < 4) (hs : st c = 0) (hst : ∀ d, st' d = if d = c then 4 else st d) (hg : ∀ d, got' d = if d = c then 0 else got d) (hn : ∀ d, need' d = if d = c then 0 else need d) (hk : ∀ j d, k' j d = k j d + pv_bk j d 0 4 c 0) (h13 : ∀ d, k' 13 d ≤ 3 * k' 10 d) : pv_li st' k' got' need' kp ow sh := by
  obtain ⟨hL, hX, hF, hkp, how, hsh, hz, h13o⟩ := h
  have L := hL c hc
  rw [hs] at L
  simp only [pv_lc] at L
  have K : ∀ d, d < 4 → d ≠ c → ∀ j, k' j d = k j d := by
    intro d h4 n0 j
    have e := hk j d
    rw [pv_bk_0 (show 4 ≠ d by omega) (show c ≠ d by omega)] at e
    omega
  have C0 := hk 0 c
  have C1 := hk 1 c
  have C2 := hk 2 c
  have C3 := hk 3 c
  have C4 := hk 4 c
  have C5 := hk 5 c
  have C6 := hk 6 c
  have C7 := hk 7 c
  have C8 := hk 8 c
  have C9 := hk 9 c
  have C10 := hk 10 c
  have C11 := hk 11 c
  have C12 := hk 12 c
  have C13 := hk 13 c
  simp [pv_bk, show (4 : Nat) ≠ c by omega] at C0 C1 C2 C3 C4 C5 C6 C7 C8 C9 C10 C11 C12 C13
  have H10 := hk 10 4
  simp [pv_bk, show c ≠ 4 by omega] at H10
  have OO : ∀ d, d < 4 → d ≠ c → pv_oc kp ow d = pv_oc kp ow d := by
    intro d h4 n0; rfl
  have SS : ∀ d, d < 4 → d ≠ c → pv_sb sh d = pv_sb sh d := by
    intro d h4 n0; rfl
  have TT : ∀ d, d < 4 → d ≠ c → st' d = st d := by
    intro d h4 n0; rw [hst d, if_neg n0]
  have LLc : pv_lc (st' c) (fun j => k' j c) (got' c) (need' c) (pv_oc kp ow c) (pv_sb sh c) := by
    rw [hst c, if_pos rfl, hg c, hn c, if_pos rfl, if_pos rfl]
    simp only [pv_lc]
    omega
  have LL : ∀ d, d < 4 → pv_lc (st' d) (fun j => k' j d) (got' d) (need' d) (pv_oc kp ow d) (pv_sb sh d) := by
    intro d h4
    by_cases n0 : d = c
    · subst n0; exact LLc
    rw [TT d h4 n0, OO d h4 n0, SS d h4 n0, show (fun j => k' j d) = (fun j => k j d) from funext (K d h4 n0), hg d, if_neg n0, hn d, if_neg n0]
    exact hL d h4
  have X := pv_s4_1 hc (f := fun z => pv_xv (st z) (fun j => k j z) (pv_oc kp ow z)) (g := fun z => pv_xv (st' z) (fun j => k' j z) (pv_oc kp ow z)) (fun d h4 n0 => by
    show pv_xv (st' d) (fun j => k' j d) (pv_oc kp ow d) = pv_xv (st d) (fun j => k j d) (pv_oc kp ow d)
    rw [TT d h4 n0, OO d h4 n0, show (fun j => k' j d) = (fun j => k j d) from funext (K d h4 n0)])
  have Y := pv_s4_1 hc (f := fun c => k 4 c) (g := fun c => k' 4 c) (fun d h4 n0 => K d h4 n0 4)
  try simp only at X Y
  have xa : pv_xv (st c) (fun j => k j c) (pv_oc kp ow c) = 0 := by rw [hs]; simp only [pv_xv]
  have xb : pv_xv (st' c) (fun j => k' j c) (pv_oc kp ow c) = k' 11 c := by rw [hst c, if_pos rfl]; simp only [pv_xv]
  rw [xa, xb] at X
  refine ⟨LL, ?_, ?_, ?_, ?_, ?_, ?_, h13⟩
  · omega
  · omega
  · omega
  · omega
  · omega
  · exact hz
set_option maxHeartbeats 4000000 in
theorem pv_t_wr {st st' : Nat → Nat} {k k' : Nat → Nat → Nat} {got need got' need' : Nat → Nat} {kp ow sh c : Nat} (h : pv_li st k got need kp ow sh) (hc : c < 4) (hs : st c = 0 ∨ st c = 1) (hst : ∀ d, st' d = if d = c then (if st c = 1 then 7 else 5) else st d) (hg : ∀ d, got' d = if d = c then 0 else got d) (hn : ∀ d, need' d = if d = c then 0 else need d) (hk : ∀ j d, k' j d = k j d + pv_bk j d 1 4 c 0) (h13 : ∀ d, k' 13 d ≤ 3 * k' 10 d) : pv_li st' k' got' need' kp ow sh := by
  obtain ⟨hL, hX, hF, hkp, how, hsh, hz, h13o⟩ := h
  have L := hL c hc
  have h130 := h13o c
  have K : ∀ d, d < 4 → d ≠ c → ∀ j, k' j d = k j d := by
    intro d h4 n0 j
    have e := hk j d
    rw [pv_bk_0 (show 4 ≠ d by omega) (show c ≠ d by omega)] at e
    omega
  have C0 := hk 0 c
  have C1 := hk 1 c
  have C2 := hk 2 c
  have C3 := hk 3 c
  have C4 := hk 4 c
  have C5 := hk 5 c
  have C6 := hk 6 c
  have C7 := hk 7 c
  have C8 := hk 8 c
  have C9 := hk 9 c
  have C10 := hk 10 c
  have C11 := hk 11 c
  have C12 := hk 12 c
  have C13 := hk 13 c
  simp [pv_bk, show (4 : Nat) ≠ c by omega] at C0 C1 C2 C3 C4 C5 C6 C7 C8 C9 C10 C11 C12 C13
  have H10 := hk 10 4
  simp [pv_bk, show c ≠ 4 by omega] at H10
  have OO : ∀ d, d < 4 → d ≠ c → pv_oc kp ow d = pv_oc kp ow d := by
    intro d h4 n0; rfl
  have SS : ∀ d, d < 4 → d ≠ c → pv_sb sh d = pv_sb sh d := by
    intro d h4 n0; rfl
  have TT : ∀ d, d < 4 → d ≠ c → st' d = st d := by
    intro d h4 n0; rw [hst d, if_neg n0]
  have LLc : pv_lc (st' c) (fun j => k' j c) (got' c) (need' c) (pv_oc kp ow c) (pv_sb sh c) := by
    rw [hst c, if_pos rfl, hg c, hn c, if_pos rfl, if_pos rfl]
    rcases hs with e | e <;> rw [e] at L ⊢ <;> simp [pv_lc] at L ⊢ <;> omega
  have LL : ∀ d, d < 4 → pv_lc (st' d) (fun j => k' j d) (got' d) (need' d) (pv_oc kp ow d) (pv_sb sh d) := by
    intro d h4
    by_cases n0 : d = c
    · subst n0; exact LLc
    rw [TT d h4 n0, OO d h4 n0, SS d h4 n0, show (fun j => k' j d) = (fun j => k j d) from funext (K d h4 n0), hg d, if_neg n0, hn d, if_neg n0]
    exact hL d h4
  have X := pv_s4_1 hc (f := fun z => pv_xv (st z) (fun j => k j z) (pv_oc kp ow z)) (g := fun z => pv_xv (st' z) (fun j => k' j z) (pv_oc kp ow z)) (fun d h4 n0 => by
    show pv_xv (st' d) (fun j => k' j d) (pv_oc kp ow d) = pv_xv (st d) (fun j => k j d) (pv_oc kp ow d)
    rw [TT d h4 n0, OO d h4 n0, show (fun j => k' j d) = (fun j => k j d) from funext (K d h4 n0)])
  have Y := pv_s4_1 hc (f := fun c => k 4 c) (g := fun c => k' 4 c) (fun d h4 n0 => K d h4 n0 4)
  try simp only at X Y
  have xa : pv_xv (st c) (fun j => k j c) (pv_oc kp ow c) = 0 := by rcases hs with e | e <;> rw [e] <;> simp only [pv_xv]
  have xb : pv_xv (st' c) (fun j => k' j c) (pv_oc kp ow c) = k' 10 c := by rw [hst c, if_pos rfl]; rcases hs with e | e <;> rw [e] <;> simp [pv_xv]
  have z10 : k 10 c = 0 := by rcases hs with e | e <;> rw [e] at L <;> simp only [pv_lc] at L <;> omega
  rw [xa, xb] at X
  refine ⟨LL, ?_, ?_, ?_, ?_, ?_, ?_, h13⟩
  · omega
  · omega
  · omega
  · omega
  · omega
  · exact hz
theorem pv_t_hit {st st' : Nat → Nat} {k : Nat → Nat → Nat} {got need : Nat → Nat} {kp ow sh c : Nat} (h : pv_li st k got need kp ow sh) (hc : c < 4) (hs : st c = 2 ∨ st c = 3) (hst : ∀ d, st' d = if d = c then 3 else st d) : pv_li st' k got need kp ow sh := by
  obtain ⟨hL, hX, hF, hkp, how, hsh, hz, h13o⟩ := h
  have L := hL c hc
  have X := pv_s4_0 (f := fun c => pv_xv (st c) (fun j => k j c) (pv_oc kp ow c)) (g := fun c => pv_xv (st' c) (fun j => k j c) (pv_oc kp ow c)) (fun d _ => by
    show pv_xv (st' d) (fun j => k j d) (pv_oc kp ow d) = pv_xv (st d) (fun j => k j d) (pv_oc kp ow d)
    rw [hst d]
    split
    · next e => subst e; rcases hs with e | e <;> rw [e] <;> simp only [pv_xv]
    · rfl)
  refine ⟨fun d h4 => ?_, by rw [X]; exact hX, hF, hkp, how, hsh, hz, h13o⟩
  rw [hst d]
  split
  · next e => subst e; rcases hs with e | e <;> rw [e] at L <;> simp only [pv_lc] at L ⊢ <;> omega
  · exact hL d h4
set_option maxHeartbeats 4000000 in
theorem pv_t_lv {st st' : Nat → Nat} {k k' : Nat → Nat → Nat} {got need got' need' : Nat → Nat} {kp ow sh c : Nat} (h : pv_li st k got need kp ow sh) (hc : c < 4) (hs : st c = 1 ∨ st c = 2 ∨ st c = 3) (hst : ∀ d, st' d = if d = c then 12 - st c else st d) (hk : ∀ j d, k' j d = k j d + pv_bk j d (st c + 1) 4 c 0) (h13 : ∀ d, k' 13 d ≤ 3 * k' 10 d) : pv_li st' k' got need kp ow sh := by
  obtain ⟨hL, hX, hF, hkp, how, hsh, hz, h13o⟩ := h
  have L := hL c hc
  have hs' : st c ≠ 0 ∧ st c + 1 ≠ 0 ∧ st c + 1 ≠ 1 ∧ (st c + 1 = 2 ∨ st c + 1 = 3 ∨ st c + 1 = 4) := by omega
  generalize hv : st c + 1 = v at hk hs'
  have v5 : v ≠ 8 ∧ v ≠ 5 ∧ v ≠ 6 ∧ v ≠ 7 ∧ v ≠ 9 ∧ v ≠ 10 ∧ v ≠ 11 ∧ v ≠ 0 ∧ v ≠ 1 := by omega
  have K : ∀ d, d < 4 → d ≠ c → ∀ j, k' j d = k j d := by
    intro d h4 n0 j
    have e := hk j d
    rw [pv_bk_0 (show 4 ≠ d by omega) (show c ≠ d by omega)] at e
    omega
  have C0 := hk 0 c
  have C1 := hk 1 c
  have C2 := hk 2 c
  have C3 := hk 3 c
  have C4 := hk 4 c
  have C5 := hk 5 c
  have C6 := hk 6 c
  have C7 := hk 7 c
  have C8 := hk 8 c
  have C9 := hk 9 c
  have C10 := hk 10 c
  have C11 := hk 11 c
  have C12 := hk 12 c
  have C13 := hk 13 c
  simp [pv_bk, v5, hs'.2.2.2] at C0 C1 C2 C3 C4 C5 C6 C7 C8 C9 C10 C11 C12 C13
  have H10 := hk 10 4
  simp [pv_bk, v5] at H10
  have OO : ∀ d, d < 4 → d ≠ c → pv_oc kp ow d = pv_oc kp ow d := by
    intro d h4 n0; rfl
  have SS : ∀ d, d < 4 → d ≠ c → pv_sb sh d = pv_sb sh d := by
    intro d h4 n0; rfl
  have TT : ∀ d, d < 4 → d ≠ c → st' d = st d := by
    intro d h4 n0; rw [hst d, if_neg n0]
  have LLc : pv_lc (st' c) (fun j => k' j c) (got c) (need c) (pv_oc kp ow c) (pv_sb sh c) := by
    rw [hst c, if_pos rfl]
    rcases hs with e | e | e <;> rw [e] at L ⊢ <;> simp [pv_lc] at L ⊢ <;> omega
  have LL : ∀ d, d < 4 → pv_lc (st' d) (fun j => k' j d) (got d) (need d) (pv_oc kp ow d) (pv_sb sh d) := by
    intro d h4
    by_cases n0 : d = c
    · subst n0; exact LLc
    rw [TT d h4 n0, OO d h4 n0, SS d h4 n0, show (fun j => k' j d) = (fun j => k j d) from funext (K d h4 n0)]
    exact hL d h4
  have X := pv_s4_1 hc (f := fun z => pv_xv (st z) (fun j => k j z) (pv_oc kp ow z)) (g := fun z => pv_xv (st' z) (fun j => k' j z) (pv_oc kp ow z)) (fun d h4 n0 => by
    show pv_xv (st' d) (fun j => k' j d) (pv_oc kp ow d) = pv_xv (st d) (fun j => k j d) (pv_oc kp ow d)
    rw [TT d h4 n0, OO d h4 n0, show (fun j => k' j d) = (fun j => k j d) from funext (K d h4 n0)])
  have Y := pv_s4_1 hc (f := fun c => k 4 c) (g := fun c => k' 4 c) (fun d h4 n0 => K d h4 n0 4)
  try simp only at X Y
  have xa : pv_xv (st' c) (fun j => k' j c) (pv_oc kp ow c) = pv_xv (st c) (fun j => k j c) (pv_oc kp ow c) := by rw [hst c, if_pos rfl]; rcases hs with e | e | e <;> rw [e] at L ⊢ <;> simp [pv_lc, pv_xv] at L ⊢ <;> omega
  rw [xa] at X
  refine ⟨LL, ?_, ?_, ?_, ?_, ?_, ?_, h13⟩
  · omega
  · omega
  · omega
  · omega
  · omega
  · exact hz
set_option maxHeartbeats 4000000 in
theorem pv_t_hr0 {st st' : Nat → Nat} {k k' : Nat → Nat → Nat} {got need got' need' : Nat → Nat} {kp ow sh c : Nat} (h : pv_li st k got need kp ow sh) (hc : c < 4) (h0 : kp = 0) (h1 : 1 ≤ k 0 c) (hk : ∀ j d, k' j d + pv_bk j d 0 4 c 0 = k j d + pv_bk j d 10 c c 0) (h13 : ∀ d, k' 13 d ≤ 3 * k' 10 d) : pv_li st k' got need 2 c sh := by
  obtain ⟨hL, hX, hF, hkp, how, hsh, hz, h13o⟩ := h
  have L := hL c hc
  have s4 := pv_lc_rd L h1
  rw [s4] at L
  simp only [pv_lc] at L
  subst h0
  have sz := hz (Or.inl rfl)
  have K : ∀ d, d < 4 → d ≠ c → ∀ j, k' j d = k j d := by
    intro d h4 n0 j
    have e := hk j d
    rw [pv_bk_0 (show 4 ≠ d by omega) (show c ≠ d by omega), pv_bk_0 (show c ≠ d by omega) (show c ≠ d by omega)] at e
    omega
  have C0 := hk 0 c
  have C1 := hk 1 c
  have C2 := hk 2 c
  have C3 := hk 3 c
  have C4 := hk 4 c
  have C5 := hk 5 c
  have C6 := hk 6 c
  have C7 := hk 7 c
  have C8 := hk 8 c
  have C9 := hk 9 c
  have C10 := hk 10 c
  have C11 := hk 11 c
  have C12 := hk 12 c
  have C13 := hk 13 c
  simp [pv_bk, show (4 : Nat) ≠ c by omega] at C0 C1 C2 C3 C4 C5 C6 C7 C8 C9 C10 C11 C12 C13
  have H10 := hk 10 4
  simp [pv_bk, show c ≠ 4 by omega] at H10
  have OO : ∀ d, d < 4 → d ≠ c → pv_oc 2 c d = pv_oc 0 ow d := by
    intro d h4 n0; have : c ≠ d := fun z => n0 z.symm
    simp [pv_oc, this]
  have SS : ∀ d, d < 4 → d ≠ c → pv_sb sh d = pv_sb sh d := by
    intro d h4 n0; rfl
  have TT : ∀ d, d < 4 → d ≠ c → st d = st d := by
    intro d h4 n0; rfl
  have o1 : pv_oc 2 c c = 1 := by simp [pv_oc]
  have LLc : pv_lc (st c) (fun j => k' j c) (got c) (need c) (pv_oc 2 c c) (pv_sb sh c) := by
    rw [s4, o1]
    simp only [pv_lc]
    have := pv_sb_le sh c
    omega
  have LL : ∀ d, d < 4 → pv_lc (st d) (fun j => k' j d) (got d) (need d) (pv_oc 2 c d) (pv_sb sh d) := by
    intro d h4
    by_cases n0 : d = c
    · subst n0; exact LLc
    rw [TT d h4 n0, OO d h4 n0, SS d h4 n0, show (fun j => k' j d) = (fun j => k j d) from funext (K d h4 n0)]
    exact hL d h4
  have X := pv_s4_1 hc (f := fun z => pv_xv (st z) (fun j => k j z) (pv_oc 0 ow z)) (g := fun z => pv_xv (st z) (fun j => k' j z) (pv_oc 2 c z)) (fun d h4 n0 => by
    show pv_xv (st d) (fun j => k' j d) (pv_oc 2 c d) = pv_xv (st d) (fun j => k j d) (pv_oc 0 ow d)
    rw [TT d h4 n0, OO d h4 n0, show (fun j => k' j d) = (fun j => k j d) from funext (K d h4 n0)])
  have Y := pv_s4_1 hc (f := fun c => k 4 c) (g := fun c => k' 4 c) (fun d h4 n0 => K d h4 n0 4)
  try simp only at X Y
  have xa : pv_xv (st c) (fun j => k j c) (pv_oc 0 ow c) = k 11 c := by rw [s4]; simp only [pv_xv]
  have xb : pv_xv (st c) (fun j => k' j c) (pv_oc 2 c c) = k' 11 c := by rw [s4]; simp only [pv_xv]
  rw [xa, xb] at X
  have q1 : pv_k1 0 = 1 := rfl
  have q2 : pv_k1 2 = 0 := rfl
  have q3 : pv_k1 3 = 0 := rfl
  have q4 : pv_k3 0 = 0 := rfl
  have q5 : pv_k3 2 = 0 := rfl
  have q6 : pv_k3 3 = 1 := rfl
  refine ⟨LL, ?_, ?_, ?_, ?_, ?_, ?_, h13⟩
  · omega
  · omega
  · omega
  · omega
  · omega
  · intro _; exact sz
set_option maxHeartbeats 4000000 in
theorem pv_t_hr1 {st st' : Nat → Nat} {k k' : Nat → Nat → Nat} {got need got' need' : Nat → Nat} {kp ow sh c sh' : Nat} (h : pv_li st k got need kp ow sh) (hc : c < 4) (h0 : kp = 1) (h1 : 1 ≤ k 0 c) (hb : ∀ d, d < 4 → pv_sb sh' d = if d = c then 1 else pv_sb sh d) (hsh' : sh' < 16) (hk : ∀ j d, k' j d + pv_bk j d 0 4 c 0 = k j d + pv_bk j d 9 c c 0) (h13 : ∀ d, k' 13 d ≤ 3 * k' 10 d) : pv_li st k' got need kp ow sh' := by
  obtain ⟨hL, hX, hF, hkp, how, hsh, hz, h13o⟩ := h
  have L := hL c hc
  have s4 := pv_lc_rd L h1
  rw [s4] at L
  simp only [pv_lc] at L
  have K : ∀ d, d < 4 → d ≠ c → ∀ j, k' j d = k j d := by
    intro d h4 n0 j
    have e := hk j d
    rw [pv_bk_0 (show 4 ≠ d by omega) (show c ≠ d by omega), pv_bk_0 (show c ≠ d by omega) (show c ≠ d by omega)] at e
    omega
  have C0 := hk 0 c
  have C1 := hk 1 c
  have C2 := hk 2 c
  have C3 := hk 3 c
  have C4 := hk 4 c
  have C5 := hk 5 c
  have C6 := hk 6 c
  have C7 := hk 7 c
  have C8 := hk 8 c
  have C9 := hk 9 c
  have C10 := hk 10 c
  have C11 := hk 11 c
  have C12 := hk 12 c
  have C13 := hk 13 c
  simp [pv_bk, show (4 : Nat) ≠ c by omega] at C0 C1 C2 C3 C4 C5 C6 C7 C8 C9 C10 C11 C12 C13
  have H10 := hk 10 4
  simp [pv_bk, show c ≠ 4 by omega] at H10
  have OO : ∀ d, d < 4 → d ≠ c → pv_oc kp ow d = pv_oc kp ow d := by
    intro d h4 n0; rfl
  have SS : ∀ d, d < 4 → d ≠ c → pv_sb sh' d = pv_sb sh d := by
    intro d h4 n0; rw [hb d h4, if_neg n0]
  have TT : ∀ d, d < 4 → d ≠ c → st d = st d := by
    intro d h4 n0; rfl
  have LLc : pv_lc (st c) (fun j => k' j c) (got c) (need c) (pv_oc kp ow c) (pv_sb sh' c) := by
    rw [s4, hb c hc, if_pos rfl]
    simp only [pv_lc]
    omega
  have LL : ∀ d, d < 4 → pv_lc (st d) (fun j => k' j d) (got d) (need d) (pv_oc kp ow d) (pv_sb sh' d) := by
    intro d h4
    by_cases n0 : d = c
    · subst n0; exact LLc
    rw [TT d h4 n0, OO d h4 n0, SS d h4 n0, show (fun j => k' j d) = (fun j => k j d) from funext (K d h4 n0)]
    exact hL d h4
  have X := pv_s4_1 hc (f := fun z => pv_xv (st z) (fun j => k j z) (pv_oc kp ow z)) (g := fun z => pv_xv (st z) (fun j => k' j z) (pv_oc kp ow z)) (fun d h4 n0 => by
    show pv_xv (st d) (fun j => k' j d) (pv_oc kp ow d) = pv_xv (st d) (fun j => k j d) (pv_oc kp ow d)
    rw [TT d h4 n0, OO d h4 n0, show (fun j => k' j d) = (fun j => k j d) from funext (K d h4 n0)])
  have Y := pv_s4_1 hc (f := fun c => k 4 c) (g := fun c => k' 4 c) (fun d h4 n0 => K d h4 n0 4)
  try simp only at X Y
  have xa : pv_xv (st c) (fun j => k j c) (pv_oc kp ow c) = k 11 c := by rw [s4]; simp only [pv_xv]
  have xb : pv_xv (st c) (fun j => k' j c) (pv_oc kp ow c) = k' 11 c := by rw [s4]; simp only [pv_xv]
  rw [xa, xb] at X
  refine ⟨LL, ?_, ?_, ?_, ?_, ?_, ?_, h13⟩
  · omega
  · omega
  · omega
  · omega
  · omega
  · intro z; omega
set_option maxHeartbeats 4000000 in
theorem pv_t_hr2 {st st' : Nat → Nat} {k k' : Nat → Nat → Nat} {got need got' need' : Nat → Nat} {kp ow sh c r sh' : Nat} (h : pv_li st k got need kp ow sh) (hr : r < 4) (h0 : kp = 2) (ho : ow = c) (h1 : 1 ≤ k 0 r) (hb : ∀ d, d < 4 → pv_sb sh' d = if d = c ∨ d = r then 1 else 0) (hsh' : sh' < 16) (hk : ∀ j d, k' j d + pv_bk j d 0 4 r 0 = k j d + pv_bk j d 5 c r 0) (h13 : ∀ d, k' 13 d ≤ 3 * k' 10 d) : pv_li st k' got need 3 c sh' := by
  obtain ⟨hL, hX, hF, hkp, how, hsh, hz, h13o⟩ := h
  subst ho
  have hc := how
  generalize ow = c at *
  subst h0
  have sz := hz (Or.inr rfl)
  have o1 : pv_oc 2 c c = 1 := by simp [pv_oc]
  have o3 : ∀ d, pv_oc 3 c d = 0 := fun d => by simp [pv_oc]
  have Lr := hL r hr
  have s4 := pv_lc_rd Lr h1
  rw [s4] at Lr
  simp only [pv_lc] at Lr
  have hcr : c ≠ r := by
    intro e; subst e; omega
  have sz0 : ∀ d, pv_sb sh d = 0 := fun d => by rw [sz]; simp [pv_sb]
  have L := hL c hc
  have b12 := pv_lc_le L
  rw [o1, sz0 c] at L
  have K : ∀ d, d < 4 → d ≠ c → d ≠ r → ∀ j, k' j d = k j d := by
    intro d h4 n0 n1 j
    have e := hk j d
    rw [pv_bk_0 (show 4 ≠ d by omega) (show r ≠ d by omega), pv_bk_0 (show c ≠ d by omega) (show r ≠ d by omega)] at e
    omega
  have C0 := hk 0 c
  have C1 := hk 1 c
  have C2 := hk 2 c
  have C3 := hk 3 c
  have C4 := hk 4 c
  have C5 := hk 5 c
  have C6 := hk 6 c
  have C7 := hk 7 c
  have C8 := hk 8 c
  have C9 := hk 9 c
  have C10 := hk 10 c
  have C11 := hk 11 c
  have C12 := hk 12 c
  have C13 := hk 13 c
  simp [pv_bk, hcr, hcr.symm, show (4 : Nat) ≠ c by omega] at C0 C1 C2 C3 C4 C5 C6 C7 C8 C9 C10 C11 C12 C13
  have R0 := hk 0 r
  have R1 := hk 1 r
  have R2 := hk 2 r
  have R3 := hk 3 r
  have R4 := hk 4 r
  have R5 := hk 5 r
  have R6 := hk 6 r
  have R7 := hk 7 r
  have R8 := hk 8 r
  have R9 := hk 9 r
  have R10 := hk 10 r
  have R11 := hk 11 r
  have R12 := hk 12 r
  have R13 := hk 13 r
  simp [pv_bk, hcr, hcr.symm, show (4 : Nat) ≠ r by omega] at R0 R1 R2 R3 R4 R5 R6 R7 R8 R9 R10 R11 R12 R13
  have H10 := hk 10 4
  simp [pv_bk, show c ≠ 4 by omega, show r ≠ 4 by omega] at H10
  have OO : ∀ d, d < 4 → d ≠ c → d ≠ r → pv_oc 3 c d = pv_oc 2 c d := by
    intro d h4 n0 n1; have n0' : c ≠ d := fun z => n0 z.symm
    simp [pv_oc, n0']
  have SS : ∀ d, d < 4 → d ≠ c → d ≠ r → pv_sb sh' d = pv_sb sh d := by
    intro d h4 n0 n1; rw [hb d h4, if_neg (by omega), sz0]
  have TT : ∀ d, d < 4 → d ≠ c → d ≠ r → st d = st d := by
    intro d h4 n0 n1; rfl
  have LLc : pv_lc (st c) (fun j => k' j c) (got c) (need c) (pv_oc 3 c c) (pv_sb sh' c) := by
    rw [o3, hb c hc, if_pos (Or.inl rfl)]
    unfold pv_lc at L ⊢
    split at L <;> first | exact L.elim | ((try dsimp only at *) ; omega)
  have LLr : pv_lc (st r) (fun j => k' j r) (got r) (need r) (pv_oc 3 c r) (pv_sb sh' r) := by
    rw [s4, o3, hb r hr, if_pos (Or.inr rfl)]
    simp only [pv_lc]
    have := pv_oc_le 2 c r
    omega
  have LL : ∀ d, d < 4 → pv_lc (st d) (fun j => k' j d) (got d) (need d) (pv_oc 3 c d) (pv_sb sh' d) := by
    intro d h4
    by_cases n0 : d = c
    · subst n0; exact LLc
    by_cases n1 : d = r
    · subst n1; exact LLr
    rw [TT d h4 n0 n1, OO d h4 n0 n1, SS d h4 n0 n1, show (fun j => k' j d) = (fun j => k j d) from funext (K d h4 n0 n1)]
    exact hL d h4
  have X := pv_s4_2 hc hr hcr (f := fun z => pv_xv (st z) (fun j => k j z) (pv_oc 2 c z)) (g := fun z => pv_xv (st z) (fun j => k' j z) (pv_oc 3 c z)) (fun d h4 n0 n1 => by
    show pv_xv (st d) (fun j => k' j d) (pv_oc 3 c d) = pv_xv (st d) (fun j => k j d) (pv_oc 2 c d)
    rw [TT d h4 n0 n1, OO d h4 n0 n1, show (fun j => k' j d) = (fun j => k j d) from funext (K d h4 n0 n1)])
  have Y := pv_s4_2 hc hr hcr (f := fun c => k 4 c) (g := fun c => k' 4 c) (fun d h4 n0 n1 => K d h4 n0 n1 4)
  try simp only at X Y
  have xa : pv_xv (st r) (fun j => k j r) (pv_oc 2 c r) = k 11 r := by rw [s4]; simp only [pv_xv]
  have xb : pv_xv (st r) (fun j => k' j r) (pv_oc 3 c r) = k' 11 r := by rw [s4]; simp only [pv_xv]
  have xc : pv_xv (st c) (fun j => k' j c) (pv_oc 3 c c) = pv_xv (st c) (fun j => k j c) (pv_oc 2 c c) := by
    rw [o1, o3]; unfold pv_xv; unfold pv_lc at L; split <;> simp only at * <;> omega
  rw [xa, xb, xc] at X
  have q1 : pv_k1 0 = 1 := rfl
  have q2 : pv_k1 2 = 0 := rfl
  have q3 : pv_k1 3 = 0 := rfl
  have q4 : pv_k3 0 = 0 := rfl
  have q5 : pv_k3 2 = 0 := rfl
  have q6 : pv_k3 3 = 1 := rfl
  refine ⟨LL, ?_, ?_, ?_, ?_, ?_, ?_, h13⟩
  · omega
  · omega
  · omega
  · omega
  · omega
  · intro z; omega
theorem pv_bk_9 {j d rq n : Nat} (h : d < 4) : pv_bk j d 9 4 rq n = 0 := by
  have : 4 ≠ d := by omega
  unfold pv_bk
  split <;> simp [this]
set_option maxHeartbeats 4000000 in
theorem pv_t_hw2 {st st' : Nat → Nat} {k k' : Nat → Nat → Nat} {got need got' need' : Nat → Nat} {kp ow sh c r : Nat} (h : pv_li st k got need kp ow sh) (hr : r < 4) (h0 : kp = 2) (ho : ow = c) (h1 : 1 ≤ k 1 r) (hk : ∀ j d, k' j d + pv_bk j d 1 4 r 0 = k j d + pv_bk j d 6 c r 0) (h13 : ∀ d, k' 13 d ≤ 3 * k' 10 d) : pv_li st k' got need 2 r sh := by
  obtain ⟨hL, hX, hF, hkp, how, hsh, hz, h13o⟩ := h
  subst ho
  have hc := how
  generalize ow = c at *
  subst h0
  have sz := hz (Or.inr rfl)
  have o1 : pv_oc 2 c c = 1 := by simp [pv_oc]
  have o2 : pv_oc 2 r r = 1 := by simp [pv_oc]
  have Lr := hL r hr
  have s4 := pv_lc_wr Lr h1
  have hcr : c ≠ r := by
    intro e; subst e; rcases s4 with e | e <;> rw [e, o1] at Lr <;> simp only [pv_lc] at Lr <;> omega
  have o3 : pv_oc 2 r c = 0 := by simp [pv_oc, hcr.symm]
  have o4 : pv_oc 2 c r = 0 := by simp [pv_oc, hcr]
  have sz0 : ∀ d, pv_sb sh d = 0 := fun d => by rw [sz]; simp [pv_sb]
  have L := hL c hc
  rw [o1, sz0 c] at L
  rw [o4, sz0 r] at Lr
  have K : ∀ d, d < 4 → d ≠ c → d ≠ r → ∀ j, k' j d = k j d := by
    intro d h4 n0 n1 j
    have e := hk j d
    rw [pv_bk_0 (show 4 ≠ d by omega) (show r ≠ d by omega), pv_bk_0 (show c ≠ d by omega) (show r ≠ d by omega)] at e
    omega
  have C0 := hk 0 c
  have C1 := hk 1 c
  have C2 := hk 2 c
  have C3 := hk 3 c
  have C4 := hk 4 c
  have C5 := hk 5 c
  have C6 := hk 6 c
  have C7 := hk 7 c
  have C8 := hk 8 c
  have C9 := hk 9 c
  have C10 := hk 10 c
  have C11 := hk 11 c
  have C12 := hk 12 c
  have C13 := hk 13 c
  simp [pv_bk, hcr, hcr.symm, show (4 : Nat) ≠ c by omega] at C0 C1 C2 C3 C4 C5 C6 C7 C8 C9 C10 C11 C12 C13
  have R0 := hk 0 r
  have R1 := hk 1 r
  have R2 := hk 2 r
  have R3 := hk 3 r
  have R4 := hk 4 r
  have R5 := hk 5 r
  have R6 := hk 6 r
  have R7 := hk 7 r
  have R8 := hk 8 r
  have R9 := hk 9 r
  have R10 := hk 10 r
  have R11 := hk 11 r
  have R12 := hk 12 r
  have R13 := hk 13 r
  simp [pv_bk, hcr, hcr.symm, show (4 : Nat) ≠ r by omega] at R0 R1 R2 R3 R4 R5 R6 R7 R8 R9 R10 R11 R12 R13
  have H10 := hk 10 4
  simp [pv_bk, show c ≠ 4 by omega, show r ≠ 4 by omega] at H10
  have OO : ∀ d, d < 4 → d ≠ c → d ≠ r → pv_oc 2 r d = pv_oc 2 c d := by
    intro d h4 n0 n1; have n0' : c ≠ d := fun z => n0 z.symm
    have n1' : r ≠ d := fun z => n1 z.symm
    simp [pv_oc, n0', n1']
  have SS : ∀ d, d < 4 → d ≠ c → d ≠ r → pv_sb sh d = pv_sb sh d := by
    intro d h4 n0 n1; rfl
  have TT : ∀ d, d < 4 → d ≠ c → d ≠ r → st d = st d := by
    intro d h4 n0 n1; rfl
  have LLc : pv_lc (st c) (fun j => k' j c) (got c) (need c) (pv_oc 2 r c) (pv_sb sh c) := by
    rw [o3, sz0]
    unfold pv_lc at L ⊢
    split at L <;> first | exact L.elim | ((try dsimp only at *) ; omega)
  have LLr : pv_lc (st r) (fun j => k' j r) (got r) (need r) (pv_oc 2 r r) (pv_sb sh r) := by
    rw [o2, sz0]
    rcases s4 with e | e <;> rw [e] at Lr ⊢ <;> simp only [pv_lc] at Lr ⊢ <;> omega
  have LL : ∀ d, d < 4 → pv_lc (st d) (fun j => k' j d) (got d) (need d) (pv_oc 2 r d) (pv_sb sh d) := by
    intro d h4
    by_cases n0 : d = c
    · subst n0; exact LLc
    by_cases n1 : d = r
    · subst n1; exact LLr
    rw [TT d h4 n0 n1, OO d h4 n0 n1, SS d h4 n0 n1, show (fun j => k' j d) = (fun j => k j d) from funext (K d h4 n0 n1)]
    exact hL d h4
  have X := pv_s4_2 hc hr hcr (f := fun z => pv_xv (st z) (fun j => k j z) (pv_oc 2 c z)) (g := fun z => pv_xv (st z) (fun j => k' j z) (pv_oc 2 r z)) (fun d h4 n0 n1 => by
    show pv_xv (st d) (fun j => k' j d) (pv_oc 2 r d) = pv_xv (st d) (fun j => k j d) (pv_oc 2 c d)
    rw [TT d h4 n0 n1, OO d h4 n0 n1, show (fun j => k' j d) = (fun j => k j d) from funext (K d h4 n0 n1)])
  have Y := pv_s4_2 hc hr hcr (f := fun c => k 4 c) (g := fun c => k' 4 c) (fun d h4 n0 n1 => K d h4 n0 n1 4)
  try simp only at X Y
  have xa : pv_xv (st r) (fun j => k j r) (pv_oc 2 c r) = k 10 r := by rcases s4 with e | e <;> rw [e] <;> simp only [pv_xv]
  have xb : pv_xv (st r) (fun j => k' j r) (pv_oc 2 r r) = k' 10 r := by rcases s4 with e | e <;> rw [e] <;> simp only [pv_xv]
  have xc : pv_xv (st c) (fun j => k' j c) (pv_oc 2 r c) = pv_xv (st c) (fun j => k j c) (pv_oc 2 c c) := by
    rw [o1, o3]; unfold pv_xv; unfold pv_lc at L; split <;> simp only at * <;> omega
  rw [xa, xb, xc] at X
  refine ⟨LL, ?_, ?_, ?_, ?_, ?_, ?_, h13⟩
  · omega
  · omega
  · omega
  · omega
  · omega
  · intro _; exact sz
set_option maxHeartbeats 4000000 in
theorem pv_t_hw1 {st : Nat → Nat} {k k' : Nat → Nat → Nat} {got need : Nat → Nat} {kp ow sh c n : Nat} (h : pv_li st k got need kp ow sh) (hc : c < 4) (h0 : kp ≤ 1) (h1 : 1 ≤ k 1 c) (hfr : ∀ d, d < 4 → 1 ≤ k 6 d → ∃ e, e < 4 ∧ 1 ≤ k 4 e)
    (ho : ∀ d, d < 4 → d ≠ c → ∀ j, j ≠ 8 → k' j d = k j d) (h8 : ∀ d, d < 4 → d ≠ c → k' 8 d = k 8 d + pv_sb sh d) (h4 : k' 10 4 = k 10 4)
    (hk : ∀ j, k' j c + pv_bk j c 1 4 c 0 = k j c + pv_bk j c 9 c c n + if j = 9 then n else 0) (h13 : ∀ d, k' 13 d ≤ 3 * k' 10 d) : pv_li st k' got need 2 c 0 := by
  obtain ⟨hL, hX, hF, hkp, how, hsh, hz, h13o⟩ := h
  have L := hL c hc
  have s5 := pv_lc_wr L h1
  have hF0 : pv_s4 (fun c => k 4 c) + k 10 4 = 0 := by rw [hF]; simp [pv_k3]; omega
  have f0 : ∀ d, d < 4 → k 4 d = 0 := fun d hd => by
    have := pv_s4_le (f := fun c => k 4 c) hd
    try simp only at this
    omega
  have f6 : ∀ d, d < 4 → k 6 d = 0 := fun d hd => by
    by_cases z : k 6 d = 0
    · exact z
    · obtain ⟨e, he, h2⟩ := hfr d hd (by omega)
      have := f0 e he
      omega
  have o0 : ∀ d, pv_oc kp ow d = 0 := fun d => by
    have : kp ≠ 2 := by omega
    simp [pv_oc, this]
  have oo : ∀ d, d ≠ c → pv_oc 2 c d = 0 := fun d hd => by simp [pv_oc, Ne.symm hd]
  have oc1 : pv_oc 2 c c = 1 := by simp [pv_oc]
  have sz : ∀ d, pv_sb 0 d = 0 := fun d => by simp [pv_sb]
  have hk0 := hk 0; have hk1 := hk 1; have hk2 := hk 2; have hk3 := hk 3; have hk4 := hk 4; have hk5 := hk 5; have hk6 := hk 6; have hk7 := hk 7; have hk8 := hk 8; have hk9 := hk 9; have hk10 := hk 10; have hk11 := hk 11; have hk12 := hk 12; have hk13 := hk 13
  simp [pv_bk, show (4 : Nat) ≠ c by omega] at hk0 hk1 hk2 hk3 hk4 hk5 hk6 hk7 hk8 hk9 hk10 hk11 hk12 hk13
  have h13c := h13o c
  have LLc : pv_lc (st c) (fun j => k' j c) (got c) (need c) (pv_oc 2 c c) (pv_sb 0 c) := by
    rw [oc1, sz]
    rw [o0] at L
    rcases s5 with e | e <;> rw [e] at L ⊢ <;> simp only [pv_lc] at L ⊢ <;> omega
  have LL : ∀ d, d < 4 → pv_lc (st d) (fun j => k' j d) (got d) (need d) (pv_oc 2 c d) (pv_sb 0 d) := by
    intro d hd
    by_cases n : d = c
    · subst n; exact LLc
    have Ld := hL d hd
    rw [oo d n, sz]
    rw [o0] at Ld
    have a0 := ho d hd n 0 (by omega); have a1 := ho d hd n 1 (by omega); have a2 := ho d hd n 2 (by omega); have a3 := ho d hd n 3 (by omega); have a4 := ho d hd n 4 (by omega); have a5 := ho d hd n 5 (by omega); have a6 := ho d hd n 6 (by omega); have a7 := ho d hd n 7 (by omega); have a9 := ho d hd n 9 (by omega); have a10 := ho d hd n 10 (by omega); have a11 := ho d hd n 11 (by omega); have a12 := ho d hd n 12 (by omega); have a13 := ho d hd n 13 (by omega)
    have a8 := h8 d hd n
    have f4 := f0 d hd
    have f6 := f6 d hd
    unfold pv_lc at Ld ⊢
    split at Ld <;> first | exact Ld.elim | ((try dsimp only at *) ; omega)
  have X := pv_s4_1 hc (f := fun c => pv_xv (st c) (fun j => k j c) (pv_oc kp ow c)) (g := fun d => pv_xv (st d) (fun j => k' j d) (pv_oc 2 c d)) (fun d hd n => by
    show pv_xv (st d) (fun j => k' j d) (pv_oc 2 c d) = pv_xv (st d) (fun j => k j d) (pv_oc kp ow d)
    have a4 := ho d hd n 4 (by omega); have a5 := ho d hd n 5 (by omega); have a10 := ho d hd n 10 (by omega); have a11 := ho d hd n 11 (by omega)
    rw [oo d n, o0]
    simp only [pv_xv, a4, a5, a10, a11])
  have Y := pv_s4_1 hc (f := fun c => k 4 c) (g := fun c => k' 4 c) (fun d hd n => ho d hd n 4 (by omega))
  try simp only at X Y
  have xa : pv_xv (st c) (fun j => k j c) (pv_oc kp ow c) = k 10 c := by rcases s5 with e | e <;> rw [e] <;> simp only [pv_xv]
  have xb : pv_xv (st c) (fun j => k' j c) (pv_oc 2 c c) = k' 10 c := by rcases s5 with e | e <;> rw [e] <;> simp only [pv_xv]
  have z10 : k 10 c = 0 := by rcases s5 with e | e <;> rw [e] at L <;> simp only [pv_lc] at L <;> omega
  rw [xa, xb] at X
  have k1 : pv_k1 kp = 1 := by unfold pv_k1; rw [if_pos h0]
  refine ⟨LL, ?_, ?_, ?_, ?_, ?_, ?_, h13⟩
  · have q2 : pv_k1 2 = 0 := rfl
    omega
  · have q5 : pv_k3 2 = 0 := rfl
    omega
  · omega
  · omega
  · omega
  · intro _; rfl
set_option maxHeartbeats 4000000 in
theorem pv_t_hlo {st st' : Nat → Nat} {k k' : Nat → Nat → Nat} {got need got' need' : Nat → Nat} {kp ow sh c v : Nat} (h : pv_li st k got need kp ow sh) (hc : c < 4) (h0 : kp = 2) (ho : ow = c) (h1 : 1 ≤ k 2 c) (hv : v = 2 ∨ v = 3 ∨ v = 4) (hk : ∀ j d, k' j d + pv_bk j d v 4 c 0 = k j d + pv_bk j d 8 c c 0) (h13 : ∀ d, k' 13 d ≤ 3 * k' 10 d) : pv_li st k' got need 0 ow sh := by
  obtain ⟨hL, hX, hF, hkp, how, hsh, hz, h13o⟩ := h
  subst h0
  have sz := hz (Or.inr rfl)
  have o1 : pv_oc 2 ow c = 1 := by simp [pv_oc, ho]
  have o0 : ∀ d, pv_oc 0 ow d = 0 := fun d => by simp [pv_oc]
  have L := hL c hc
  have s9 := pv_lc_lv L h1
  rw [o1] at L
  have v5 : v ≠ 8 ∧ v ≠ 5 ∧ v ≠ 6 ∧ v ≠ 7 ∧ v ≠ 9 ∧ v ≠ 10 ∧ v ≠ 11 ∧ v ≠ 0 ∧ v ≠ 1 := by omega
  have s9' : st c = 9 ∨ st c = 10 := by
    rcases s9 with e | e | e | e <;> rw [e] at L <;> simp only [pv_lc] at L <;> omega
  have K : ∀ d, d < 4 → d ≠ c → ∀ j, k' j d = k j d := by
    intro d h4 n0 j
    have e := hk j d
    rw [pv_bk_0 (show 4 ≠ d by omega) (show c ≠ d by omega), pv_bk_0 (show c ≠ d by omega) (show c ≠ d by omega)] at e
    omega
  have C0 := hk 0 c
  have C1 := hk 1 c
  have C2 := hk 2 c
  have C3 := hk 3 c
  have C4 := hk 4 c
  have C5 := hk 5 c
  have C6 := hk 6 c
  have C7 := hk 7 c
  have C8 := hk 8 c
  have C9 := hk 9 c
  have C10 := hk 10 c
  have C11 := hk 11 c
  have C12 := hk 12 c
  have C13 := hk 13 c
  simp [pv_bk, v5, hv, show (4 : Nat) ≠ c by omega] at C0 C1 C2 C3 C4 C5 C6 C7 C8 C9 C10 C11 C12 C13
  have H10 := hk 10 4
  simp [pv_bk, v5, show c ≠ 4 by omega] at H10
  have OO : ∀ d, d < 4 → d ≠ c → pv_oc 0 ow d = pv_oc 2 ow d := by
    intro d h4 n0; have n0' : ow ≠ d := fun z => n0 (z.symm.trans ho)
    simp [pv_oc, n0']
  have SS : ∀ d, d < 4 → d ≠ c → pv_sb sh d = pv_sb sh d := by
    intro d h4 n0; rfl
  have TT : ∀ d, d < 4 → d ≠ c → st d = st d := by
    intro d h4 n0; rfl
  have LLc : pv_lc (st c) (fun j => k' j c) (got c) (need c) (pv_oc 0 ow c) (pv_sb sh c) := by
    rw [o0]
    rcases s9' with e | e <;> rw [e] at L ⊢ <;> simp only [pv_lc] at L ⊢ <;> omega
  have LL : ∀ d, d < 4 → pv_lc (st d) (fun j => k' j d) (got d) (need d) (pv_oc 0 ow d) (pv_sb sh d) := by
    intro d h4
    by_cases n0 : d = c
    · subst n0; exact LLc
    rw [TT d h4 n0, OO d h4 n0, SS d h4 n0, show (fun j => k' j d) = (fun j => k j d) from funext (K d h4 n0)]
    exact hL d h4
  have X := pv_s4_1 hc (f := fun z => pv_xv (st z) (fun j => k j z) (pv_oc 2 ow z)) (g := fun z => pv_xv (st z) (fun j => k' j z) (pv_oc 0 ow z)) (fun d h4 n0 => by
    show pv_xv (st d) (fun j => k' j d) (pv_oc 0 ow d) = pv_xv (st d) (fun j => k j d) (pv_oc 2 ow d)
    rw [TT d h4 n0, OO d h4 n0, show (fun j => k' j d) = (fun j => k j d) from funext (K d h4 n0)])
  have Y := pv_s4_1 hc (f := fun c => k 4 c) (g := fun c => k' 4 c) (fun d h4 n0 => K d h4 n0 4)
  try simp only at X Y
  have xa : pv_xv (st c) (fun j => k j c) (pv_oc 2 ow c) = 1 := by rw [o1]; rcases s9' with e | e <;> rw [e] at L ⊢ <;> simp only [pv_lc, pv_xv] at L ⊢ <;> omega
  have xb : pv_xv (st c) (fun j => k' j c) (pv_oc 0 ow c) = 0 := by rw [o0]; rcases s9' with e | e <;> rw [e] at L ⊢ <;> simp only [pv_lc, pv_xv] at L ⊢ <;> omega
  rw [xa, xb] at X
  have q1 : pv_k1 0 = 1 := rfl
  have q2 : pv_k1 2 = 0 := rfl
  have q3 : pv_k1 3 = 0 := rfl
  have q4 : pv_k3 0 = 0 := rfl
  have q5 : pv_k3 2 = 0 := rfl
  have q6 : pv_k3 3 = 1 := rfl
  refine ⟨LL, ?_, ?_, ?_, ?_, ?_, ?_, h13⟩
  · omega
  · omega
  · omega
  · omega
  · omega
  · intro _; exact sz
set_option maxHeartbeats 4000000 in
theorem pv_t_hln {st st' : Nat → Nat} {k k' : Nat → Nat → Nat} {got need got' need' : Nat → Nat} {kp ow sh c v kp' sh' : Nat} (h : pv_li st k got need kp ow sh) (hc : c < 4) (ho : ¬ (kp = 2 ∧ ow = c)) (h1 : 1 ≤ k 2 c) (hv : v = 2 ∨ v = 3 ∨ v = 4) (hkp' : kp' = if kp = 1 ∧ sh' = 0 then 0 else kp) (hb : ∀ d, d < 4 → pv_sb sh' d = if d = c then 0 else pv_sb sh d) (hsh' : sh' < 16) (hs0 : sh = 0 → sh' = 0) (hk : ∀ j d, k' j d + pv_bk j d v 4 c 0 = k j d + pv_bk j d 8 c c 0) (h13 : ∀ d, k' 13 d ≤ 3 * k' 10 d) : pv_li st k' got need kp' ow sh' := by
  obtain ⟨hL, hX, hF, hkp, how, hsh, hz, h13o⟩ := h
  have oe : ∀ d, pv_oc kp' ow d = pv_oc kp ow d := fun d => by
    rw [hkp']; simp only [pv_oc]; split <;> simp_all
  have o0 : pv_oc kp ow c = 0 := by simp only [pv_oc]; rw [if_neg ho]
  have L := hL c hc
  have s9 := pv_lc_lv L h1
  rw [o0] at L
  have v5 : v ≠ 8 ∧ v ≠ 5 ∧ v ≠ 6 ∧ v ≠ 7 ∧ v ≠ 9 ∧ v ≠ 10 ∧ v ≠ 11 ∧ v ≠ 0 ∧ v ≠ 1 := by omega
  have k1e : pv_k1 kp' = pv_k1 kp := by
    rw [hkp']; simp only [pv_k1]; split <;> simp_all
  have k3e : pv_k3 kp' = pv_k3 kp := by
    rw [hkp']; simp only [pv_k3]; split <;> simp_all
  have K : ∀ d, d < 4 → d ≠ c → ∀ j, k' j d = k j d := by
    intro d h4 n0 j
    have e := hk j d
    rw [pv_bk_0 (show 4 ≠ d by omega) (show c ≠ d by omega), pv_bk_0 (show c ≠ d by omega) (show c ≠ d by omega)] at e
    omega
  have C0 := hk 0 c
  have C1 := hk 1 c
  have C2 := hk 2 c
  have C3 := hk 3 c
  have C4 := hk 4 c
  have C5 := hk 5 c
  have C6 := hk 6 c
  have C7 := hk 7 c
  have C8 := hk 8 c
  have C9 := hk 9 c
  have C10 := hk 10 c
  have C11 := hk 11 c
  have C12 := hk 12 c
  have C13 := hk 13 c
  simp [pv_bk, v5, hv, show (4 : Nat) ≠ c by omega] at C0 C1 C2 C3 C4 C5 C6 C7 C8 C9 C10 C11 C12 C13
  have H10 := hk 10 4
  simp [pv_bk, v5, show c ≠ 4 by omega] at H10
  have OO : ∀ d, d < 4 → d ≠ c → pv_oc kp' ow d = pv_oc kp ow d := by
    intro d h4 n0; exact oe d
  have SS : ∀ d, d < 4 → d ≠ c → pv_sb sh' d = pv_sb sh d := by
    intro d h4 n0; rw [hb d h4, if_neg n0]
  have TT : ∀ d, d < 4 → d ≠ c → st d = st d := by
    intro d h4 n0; rfl
  have LLc : pv_lc (st c) (fun j => k' j c) (got c) (need c) (pv_oc kp' ow c) (pv_sb sh' c) := by
    rw [oe, o0, hb c hc, if_pos rfl]
    rcases s9 with e | e | e | e <;> rw [e] at L ⊢ <;> simp only [pv_lc, and_true, true_and] at L ⊢ <;> omega
  have LL : ∀ d, d < 4 → pv_lc (st d) (fun j => k' j d) (got d) (need d) (pv_oc kp' ow d) (pv_sb sh' d) := by
    intro d h4
    by_cases n0 : d = c
    · subst n0; exact LLc
    rw [TT d h4 n0, OO d h4 n0, SS d h4 n0, show (fun j => k' j d) = (fun j => k j d) from funext (K d h4 n0)]
    exact hL d h4
  have X := pv_s4_1 hc (f := fun z => pv_xv (st z) (fun j => k j z) (pv_oc kp ow z)) (g := fun z => pv_xv (st z) (fun j => k' j z) (pv_oc kp' ow z)) (fun d h4 n0 => by
    show pv_xv (st d) (fun j => k' j d) (pv_oc kp' ow d) = pv_xv (st d) (fun j => k j d) (pv_oc kp ow d)
    rw [TT d h4 n0, OO d h4 n0, show (fun j => k' j d) = (fun j => k j d) from funext (K d h4 n0)])
  have Y := pv_s4_1 hc (f := fun c => k 4 c) (g := fun c => k' 4 c) (fun d h4 n0 => K d h4 n0 4)
  try simp only at X Y
  have xa : pv_xv (st c) (fun j => k' j c) (pv_oc kp' ow c) = pv_xv (st c) (fun j => k j c) (pv_oc kp ow c) := by rw [oe]; simp only [pv_xv, C4, C5, C10, C11]
  rw [xa] at X
  refine ⟨LL, ?_, ?_, ?_, ?_, ?_, ?_, h13⟩
  · omega
  · omega
  · rw [hkp']; split <;> omega
  · omega
  · omega
  · intro z; rw [hkp'] at z; split at z
    · next e => exact e.2
    · exact hs0 (hz z)
set_option maxHeartbeats 4000000 in
theorem pv_t_hda {st : Nat → Nat} {k k' : Nat → Nat → Nat} {got need : Nat → Nat} {kp ow sh r n kp' : Nat} (h : pv_li st k got need kp ow sh) (h1 : 1 ≤ k 10 4) (hkp' : kp' = if sh = 0 then 0 else 1) (hk : ∀ j d, k' j d + pv_bk j d 9 4 r n = k j d) (h13 : ∀ d, k' 13 d ≤ 3 * k' 10 d) : pv_li st k' got need kp' ow sh := by
  obtain ⟨hL, hX, hF, hkp, how, hsh, hz, h13o⟩ := h
  have k3 : kp = 3 := by
    by_cases e : kp = 3
    · exact e
    · simp [pv_k3, e] at hF; omega
  subst k3
  have K : ∀ d, d < 4 → ∀ j, k' j d = k j d := fun d hd j => by
    have e := hk j d
    rw [pv_bk_9 hd] at e
    omega
  have H10 := hk 10 4
  simp [pv_bk] at H10
  have oe : ∀ d, pv_oc kp' ow d = pv_oc 3 ow d := fun d => by
    rw [hkp']; simp only [pv_oc]; split <;> simp
  have X := pv_s4_0 (f := fun c => pv_xv (st c) (fun j => k j c) (pv_oc 3 ow c)) (g := fun c => pv_xv (st c) (fun j => k' j c) (pv_oc kp' ow c)) (fun d hd => by
    show pv_xv (st d) (fun j => k' j d) (pv_oc kp' ow d) = pv_xv (st d) (fun j => k j d) (pv_oc 3 ow d)
    rw [oe, show (fun j => k' j d) = (fun j => k j d) from funext (K d hd)])
  have Y := pv_s4_0 (f := fun c => k 4 c) (g := fun c => k' 4 c) (fun d hd => K d hd 4)
  have k1 : pv_k1 kp' = 1 := by rw [hkp']; simp only [pv_k1]; split <;> simp
  have k3 : pv_k3 kp' = 0 := by rw [hkp']; simp only [pv_k3]; split <;> simp
  simp only [pv_k1, pv_k3] at hX hF
  simp at hX hF
  refine ⟨fun d hd => ?_, ?_, ?_, ?_, how, hsh, ?_, h13⟩
  · rw [oe, show (fun j => k' j d) = (fun j => k j d) from funext (K d hd)]
    exact hL d hd
  · rw [X, k1]; omega
  · rw [Y, k3]; omega
  · rw [hkp']; split <;> omega
  · intro z; rw [hkp'] at z
    by_cases e : sh = 0
    · exact e
    · rw [if_neg e] at z; omega
set_option maxHeartbeats 4000000 in
theorem pv_t_fr {st st' : Nat → Nat} {k k' : Nat → Nat → Nat} {got need got' need' : Nat → Nat} {kp ow sh c r : Nat} (h : pv_li st k got need kp ow sh) (hc : c < 4) (hr : r < 4) (h1 : 1 ≤ k 4 c) (h2 : 1 ≤ k 6 r) (hs : ¬ (4 ≤ st c ∧ st c ≤ 8)) (hst : ∀ d, st' d = if d = c then (if st c ≤ 3 then 1 else 11) else st d) (hk : ∀ j d, k' j d + pv_bk j d 5 c r 0 = k j d + (pv_bk j d 9 r r 0 + pv_bk j d 9 4 r 0)) (h13 : ∀ d, k' 13 d ≤ 3 * k' 10 d) : pv_li st' k' got need kp ow sh := by
  obtain ⟨hL, hX, hF, hkp, how, hsh, hz, h13o⟩ := h
  have L := hL c hc
  have Lr := hL r hr
  have sr := pv_lc_frg Lr h2
  have sc := pv_lc_fq L (by first | omega | (simp only; omega)) hs
  have hcr : c ≠ r := by
    intro e; subst e; omega
  have ob := pv_oc_le kp ow c
  have K : ∀ d, d < 4 → d ≠ c → d ≠ r → ∀ j, k' j d = k j d := by
    intro d h4 n0 n1 j
    have e := hk j d
    rw [pv_bk_0 (show c ≠ d by omega) (show r ≠ d by omega), pv_bk_0 (show r ≠ d by omega) (show r ≠ d by omega), pv_bk_0 (show 4 ≠ d by omega) (show r ≠ d by omega)] at e
    omega
  have C0 := hk 0 c
  have C1 := hk 1 c
  have C2 := hk 2 c
  have C3 := hk 3 c
  have C4 := hk 4 c
  have C5 := hk 5 c
  have C6 := hk 6 c
  have C7 := hk 7 c
  have C8 := hk 8 c
  have C9 := hk 9 c
  have C10 := hk 10 c
  have C11 := hk 11 c
  have C12 := hk 12 c
  have C13 := hk 13 c
  simp [pv_bk, hcr, hcr.symm, show (4 : Nat) ≠ c by omega] at C0 C1 C2 C3 C4 C5 C6 C7 C8 C9 C10 C11 C12 C13
  have R0 := hk 0 r
  have R1 := hk 1 r
  have R2 := hk 2 r
  have R3 := hk 3 r
  have R4 := hk 4 r
  have R5 := hk 5 r
  have R6 := hk 6 r
  have R7 := hk 7 r
  have R8 := hk 8 r
  have R9 := hk 9 r
  have R10 := hk 10 r
  have R11 := hk 11 r
  have R12 := hk 12 r
  have R13 := hk 13 r
  simp [pv_bk, hcr, hcr.symm, show (4 : Nat) ≠ r by omega] at R0 R1 R2 R3 R4 R5 R6 R7 R8 R9 R10 R11 R12 R13
  have H10 := hk 10 4
  simp [pv_bk, show c ≠ 4 by omega, show r ≠ 4 by omega] at H10
  have OO : ∀ d, d < 4 → d ≠ c → d ≠ r → pv_oc kp ow d = pv_oc kp ow d := by
    intro d h4 n0 n1; rfl
  have SS : ∀ d, d < 4 → d ≠ c → d ≠ r → pv_sb sh d = pv_sb sh d := by
    intro d h4 n0 n1; rfl
  have TT : ∀ d, d < 4 → d ≠ c → d ≠ r → st' d = st d := by
    intro d h4 n0 n1; rw [hst d, if_neg n0]
  have LLc : pv_lc (st' c) (fun j => k' j c) (got c) (need c) (pv_oc kp ow c) (pv_sb sh c) := by
    rw [hst c, if_pos rfl]
    rcases sc with e | e | e | e <;> rw [e] at L ⊢ <;> simp [pv_lc] at L ⊢ <;> omega
  have LLr : pv_lc (st' r) (fun j => k' j r) (got r) (need r) (pv_oc kp ow r) (pv_sb sh r) := by
    rw [hst r, if_neg hcr.symm]
    rw [sr] at Lr ⊢
    simp only [pv_lc] at Lr ⊢
    omega
  have LL : ∀ d, d < 4 → pv_lc (st' d) (fun j => k' j d) (got d) (need d) (pv_oc kp ow d) (pv_sb sh d) := by
    intro d h4
    by_cases n0 : d = c
    · subst n0; exact LLc
    by_cases n1 : d = r
    · subst n1; exact LLr
    rw [TT d h4 n0 n1, OO d h4 n0 n1, SS d h4 n0 n1, show (fun j => k' j d) = (fun j => k j d) from funext (K d h4 n0 n1)]
    exact hL d h4
  have X := pv_s4_2 hc hr hcr (f := fun z => pv_xv (st z) (fun j => k j z) (pv_oc kp ow z)) (g := fun z => pv_xv (st' z) (fun j => k' j z) (pv_oc kp ow z)) (fun d h4 n0 n1 => by
    show pv_xv (st' d) (fun j => k' j d) (pv_oc kp ow d) = pv_xv (st d) (fun j => k j d) (pv_oc kp ow d)
    rw [TT d h4 n0 n1, OO d h4 n0 n1, show (fun j => k' j d) = (fun j => k j d) from funext (K d h4 n0 n1)])
  have Y := pv_s4_2 hc hr hcr (f := fun c => k 4 c) (g := fun c => k' 4 c) (fun d h4 n0 n1 => K d h4 n0 n1 4)
  try simp only at X Y
  have xa : pv_xv (st c) (fun j => k j c) (pv_oc kp ow c) = 1 := by rcases sc with e | e | e | e <;> rw [e] at L ⊢ <;> simp only [pv_lc, pv_xv] at L ⊢ <;> omega
  have xb : pv_xv (st' c) (fun j => k' j c) (pv_oc kp ow c) = 0 := by rw [hst c, if_pos rfl]; rcases sc with e | e | e | e <;> rw [e] <;> simp [pv_xv]
  have xc : pv_xv (st r) (fun j => k j r) (pv_oc kp ow r) = k 11 r := by rw [sr]; simp only [pv_xv]
  have xd : pv_xv (st' r) (fun j => k' j r) (pv_oc kp ow r) = k' 11 r := by rw [hst r, if_neg hcr.symm]; rw [sr]; simp only [pv_xv]
  rw [xa, xb, xc, xd] at X
  refine ⟨LL, ?_, ?_, ?_, ?_, ?_, ?_, h13⟩
  · omega
  · omega
  · omega
  · omega
  · omega
  · exact hz
set_option maxHeartbeats 4000000 in
theorem pv_t_fw {st st' : Nat → Nat} {k k' : Nat → Nat → Nat} {got need got' need' : Nat → Nat} {kp ow sh c r : Nat} (h : pv_li st k got need kp ow sh) (hc : c < 4) (hr : r < 4) (h1 : 1 ≤ k 5 c) (h2 : 1 ≤ k 7 r) (hs : ¬ (4 ≤ st c ∧ st c ≤ 8)) (hst : ∀ d, st' d = if d = c then (if st c ≤ 3 then 0 else 12) else st d) (hk : ∀ j d, k' j d + pv_bk j d 6 c r 0 = k j d + pv_bk j d 9 r r 0) (h13 : ∀ d, k' 13 d ≤ 3 * k' 10 d) : pv_li st' k' got need kp ow sh := by
  obtain ⟨hL, hX, hF, hkp, how, hsh, hz, h13o⟩ := h
  have L := hL c hc
  have Lr := hL r hr
  have sr := pv_lc_fwg Lr h2
  have sc := pv_lc_fq L (by first | omega | (simp only; omega)) hs
  have hcr : c ≠ r := by
    intro e; subst e; omega
  have ob := pv_oc_le kp ow c
  have K : ∀ d, d < 4 → d ≠ c → d ≠ r → ∀ j, k' j d = k j d := by
    intro d h4 n0 n1 j
    have e := hk j d
    rw [pv_bk_0 (show c ≠ d by omega) (show r ≠ d by omega), pv_bk_0 (show r ≠ d by omega) (show r ≠ d by omega)] at e
    omega
  have C0 := hk 0 c
  have C1 := hk 1 c
  have C2 := hk 2 c
  have C3 := hk 3 c
  have C4 := hk 4 c
  have C5 := hk 5 c
  have C6 := hk 6 c
  have C7 := hk 7 c
  have C8 := hk 8 c
  have C9 := hk 9 c
  have C10 := hk 10 c
  have C11 := hk 11 c
  have C12 := hk 12 c
  have C13 := hk 13 c
  simp [pv_bk, hcr, hcr.symm, show (4 : Nat) ≠ c by omega] at C0 C1 C2 C3 C4 C5 C6 C7 C8 C9 C10 C11 C12 C13
  have R0 := hk 0 r
  have R1 := hk 1 r
  have R2 := hk 2 r
  have R3 := hk 3 r
  have R4 := hk 4 r
  have R5 := hk 5 r
  have R6 := hk 6 r
  have R7 := hk 7 r
  have R8 := hk 8 r
  have R9 := hk 9 r
  have R10 := hk 10 r
  have R11 := hk 11 r
  have R12 := hk 12 r
  have R13 := hk 13 r
  simp [pv_bk, hcr, hcr.symm, show (4 : Nat) ≠ r by omega] at R0 R1 R2 R3 R4 R5 R6 R7 R8 R9 R10 R11 R12 R13
  have H10 := hk 10 4
  simp [pv_bk, show c ≠ 4 by omega, show r ≠ 4 by omega] at H10
  have OO : ∀ d, d < 4 → d ≠ c → d ≠ r → pv_oc kp ow d = pv_oc kp ow d := by
    intro d h4 n0 n1; rfl
  have SS : ∀ d, d < 4 → d ≠ c → d ≠ r → pv_sb sh d = pv_sb sh d := by
    intro d h4 n0 n1; rfl
  have TT : ∀ d, d < 4 → d ≠ c → d ≠ r → st' d = st d := by
    intro d h4 n0 n1; rw [hst d, if_neg n0]
  have LLc : pv_lc (st' c) (fun j => k' j c) (got c) (need c) (pv_oc kp ow c) (pv_sb sh c) := by
    rw [hst c, if_pos rfl]
    rcases sc with e | e | e | e <;> rw [e] at L ⊢ <;> simp [pv_lc] at L ⊢ <;> omega
  have LLr : pv_lc (st' r) (fun j => k' j r) (got r) (need r) (pv_oc kp ow r) (pv_sb sh r) := by
    rw [hst r, if_neg hcr.symm]
    rcases sr with e | e <;> rw [e] at Lr ⊢ <;> simp only [pv_lc] at Lr ⊢ <;> omega
  have LL : ∀ d, d < 4 → pv_lc (st' d) (fun j => k' j d) (got d) (need d) (pv_oc kp ow d) (pv_sb sh d) := by
    intro d h4
    by_cases n0 : d = c
    · subst n0; exact LLc
    by_cases n1 : d = r
    · subst n1; exact LLr
    rw [TT d h4 n0 n1, OO d h4 n0 n1, SS d h4 n0 n1, show (fun j => k' j d) = (fun j => k j d) from funext (K d h4 n0 n1)]
    exact hL d h4
  have X := pv_s4_2 hc hr hcr (f := fun z => pv_xv (st z) (fun j => k j z) (pv_oc kp ow z)) (g := fun z => pv_xv (st' z) (fun j => k' j z) (pv_oc kp ow z)) (fun d h4 n0 n1 => by
    show pv_xv (st' d) (fun j => k' j d) (pv_oc kp ow d) = pv_xv (st d) (fun j => k j d) (pv_oc kp ow d)
    rw [TT d h4 n0 n1, OO d h4 n0 n1, show (fun j => k' j d) = (fun j => k j d) from funext (K d h4 n0 n1)])
  have Y := pv_s4_2 hc hr hcr (f := fun c => k 4 c) (g := fun c => k' 4 c) (fun d h4 n0 n1 => K d h4 n0 n1 4)
  try simp only at X Y
  have xa : pv_xv (st c) (fun j => k j c) (pv_oc kp ow c) = 1 := by rcases sc with e | e | e | e <;> rw [e] at L ⊢ <;> simp only [pv_lc, pv_xv] at L ⊢ <;> omega
  have xb : pv_xv (st' c) (fun j => k' j c) (pv_oc kp ow c) = 0 := by rw [hst c, if_pos rfl]; rcases sc with e | e | e | e <;> rw [e] <;> simp [pv_xv]
  have xc : pv_xv (st r) (fun j => k j r) (pv_oc kp ow r) = k 10 r := by rcases sr with e | e <;> rw [e] <;> simp only [pv_xv]
  have xd : pv_xv (st' r) (fun j => k' j r) (pv_oc kp ow r) = k' 10 r := by rw [hst r, if_neg hcr.symm]; rcases sr with e | e <;> rw [e] <;> simp only [pv_xv]
  rw [xa, xb, xc, xd] at X
  refine ⟨LL, ?_, ?_, ?_, ?_, ?_, ?_, h13⟩
  · omega
  · omega
  · omega
  · omega
  · omega
  · exact hz
set_option maxHeartbeats 4000000 in
theorem pv_t_dr {st st' : Nat → Nat} {k k' : Nat → Nat → Nat} {got need got' need' : Nat → Nat} {kp ow sh c r : Nat} (h : pv_li st k got need kp ow sh) (hc : c < 4) (hr : r < 4) (hcr : c ≠ r) (h1 : 1 ≤ k 8 c) (h2 : 1 ≤ k 9 r) (hs : st c ≠ 4) (hst : ∀ d, st' d = if d = c then (if st c = 7 then 5 else if st c = 11 then 12 else 0) else st d) (hk : ∀ j d, k' j d + pv_bk j d 7 c r 0 = k j d + pv_bk j d 11 r r 0) (h13 : ∀ d, k' 13 d ≤ 3 * k' 10 d) : pv_li st' k' got need kp ow sh := by
  obtain ⟨hL, hX, hF, hkp, how, hsh, hz, h13o⟩ := h
  have L := hL c hc
  have Lr := hL r hr
  have sc := pv_lc_dq L h1 hs
  have ob := pv_oc_le kp ow c
  have h13r := h13o r
  have K : ∀ d, d < 4 → d ≠ c → d ≠ r → ∀ j, k' j d = k j d := by
    intro d h4 n0 n1 j
    have e := hk j d
    rw [pv_bk_0 (show c ≠ d by omega) (show r ≠ d by omega), pv_bk_0 (show r ≠ d by omega) (show r ≠ d by omega)] at e
    omega
  have C0 := hk 0 c
  have C1 := hk 1 c
  have C2 := hk 2 c
  have C3 := hk 3 c
  have C4 := hk 4 c
  have C5 := hk 5 c
  have C6 := hk 6 c
  have C7 := hk 7 c
  have C8 := hk 8 c
  have C9 := hk 9 c
  have C10 := hk 10 c
  have C11 := hk 11 c
  have C12 := hk 12 c
  have C13 := hk 13 c
  simp [pv_bk, hcr, hcr.symm, show (4 : Nat) ≠ c by omega] at C0 C1 C2 C3 C4 C5 C6 C7 C8 C9 C10 C11 C12 C13
  have R0 := hk 0 r
  have R1 := hk 1 r
  have R2 := hk 2 r
  have R3 := hk 3 r
  have R4 := hk 4 r
  have R5 := hk 5 r
  have R6 := hk 6 r
  have R7 := hk 7 r
  have R8 := hk 8 r
  have R9 := hk 9 r
  have R10 := hk 10 r
  have R11 := hk 11 r
  have R12 := hk 12 r
  have R13 := hk 13 r
  simp [pv_bk, hcr, hcr.symm, show (4 : Nat) ≠ r by omega] at R0 R1 R2 R3 R4 R5 R6 R7 R8 R9 R10 R11 R12 R13
  have H10 := hk 10 4
  simp [pv_bk, show c ≠ 4 by omega, show r ≠ 4 by omega] at H10
  have OO : ∀ d, d < 4 → d ≠ c → d ≠ r → pv_oc kp ow d = pv_oc kp ow d := by
    intro d h4 n0 n1; rfl
  have SS : ∀ d, d < 4 → d ≠ c → d ≠ r → pv_sb sh d = pv_sb sh d := by
    intro d h4 n0 n1; rfl
  have TT : ∀ d, d < 4 → d ≠ c → d ≠ r → st' d = st d := by
    intro d h4 n0 n1; rw [hst d, if_neg n0]
  have LLc : pv_lc (st' c) (fun j => k' j c) (got c) (need c) (pv_oc kp ow c) (pv_sb sh c) := by
    rw [hst c, if_pos rfl]
    rcases sc with e | e | e <;> rw [e] at L ⊢ <;> simp [pv_lc] at L ⊢ <;> omega
  have LLr : pv_lc (st' r) (fun j => k' j r) (got r) (need r) (pv_oc kp ow r) (pv_sb sh r) := by
    rw [hst r, if_neg hcr.symm]
    unfold pv_lc at Lr ⊢
    split at Lr <;> first | exact Lr.elim | ((try dsimp only at *) ; omega)
  have LL : ∀ d, d < 4 → pv_lc (st' d) (fun j => k' j d) (got d) (need d) (pv_oc kp ow d) (pv_sb sh d) := by
    intro d h4
    by_cases n0 : d = c
    · subst n0; exact LLc
    by_cases n1 : d = r
    · subst n1; exact LLr
    rw [TT d h4 n0 n1, OO d h4 n0 n1, SS d h4 n0 n1, show (fun j => k' j d) = (fun j => k j d) from funext (K d h4 n0 n1)]
    exact hL d h4
  have X := pv_s4_2 hc hr hcr (f := fun z => pv_xv (st z) (fun j => k j z) (pv_oc kp ow z)) (g := fun z => pv_xv (st' z) (fun j => k' j z) (pv_oc kp ow z)) (fun d h4 n0 n1 => by
    show pv_xv (st' d) (fun j => k' j d) (pv_oc kp ow d) = pv_xv (st d) (fun j => k j d) (pv_oc kp ow d)
    rw [TT d h4 n0 n1, OO d h4 n0 n1, show (fun j => k' j d) = (fun j => k j d) from funext (K d h4 n0 n1)])
  have Y := pv_s4_2 hc hr hcr (f := fun c => k 4 c) (g := fun c => k' 4 c) (fun d h4 n0 n1 => K d h4 n0 n1 4)
  try simp only at X Y
  have xa : pv_xv (st' c) (fun j => k' j c) (pv_oc kp ow c) = pv_xv (st c) (fun j => k j c) (pv_oc kp ow c) := by rw [hst c, if_pos rfl]; rcases sc with e | e | e <;> rw [e] <;> simp [pv_xv] <;> omega
  have xb : pv_xv (st' r) (fun j => k' j r) (pv_oc kp ow r) = pv_xv (st r) (fun j => k j r) (pv_oc kp ow r) := by rw [hst r, if_neg hcr.symm]; simp only [pv_xv, R4, R5, R10, R11]
  rw [xa, xb] at X
  refine ⟨LL, ?_, ?_, ?_, ?_, ?_, ?_, h13⟩
  · omega
  · omega
  · omega
  · omega
  · omega
  · exact hz
set_option maxHeartbeats 4000000 in
theorem pv_t_lf {st st' : Nat → Nat} {k k' : Nat → Nat → Nat} {got need got' need' : Nat → Nat} {kp ow sh c : Nat} (h : pv_li st k got need kp ow sh) (hc : c < 4) (h1 : 1 ≤ k 3 c) (h2 : k 4 c = 0 ∧ k 5 c = 0 ∧ k 8 c = 0) (hst : ∀ d, st' d = if d = c then 0 else st d) (hk : ∀ j d, k' j d + pv_bk j d 8 c c 0 = k j d + 0) (h13 : ∀ d, k' 13 d ≤ 3 * k' 10 d) : pv_li st' k' got need kp ow sh := by
  obtain ⟨hL, hX, hF, hkp, how, hsh, hz, h13o⟩ := h
  have L := hL c hc
  have s9 := pv_lc_lf L h1
  have K : ∀ d, d < 4 → d ≠ c → ∀ j, k' j d = k j d := by
    intro d h4 n0 j
    have e := hk j d
    rw [pv_bk_0 (show c ≠ d by omega) (show c ≠ d by omega)] at e
    omega
  have C0 := hk 0 c
  have C1 := hk 1 c
  have C2 := hk 2 c
  have C3 := hk 3 c
  have C4 := hk 4 c
  have C5 := hk 5 c
  have C6 := hk 6 c
  have C7 := hk 7 c
  have C8 := hk 8 c
  have C9 := hk 9 c
  have C10 := hk 10 c
  have C11 := hk 11 c
  have C12 := hk 12 c
  have C13 := hk 13 c
  simp [pv_bk, show (4 : Nat) ≠ c by omega] at C0 C1 C2 C3 C4 C5 C6 C7 C8 C9 C10 C11 C12 C13
  have H10 := hk 10 4
  simp [pv_bk, show c ≠ 4 by omega] at H10
  have OO : ∀ d, d < 4 → d ≠ c → pv_oc kp ow d = pv_oc kp ow d := by
    intro d h4 n0; rfl
  have SS : ∀ d, d < 4 → d ≠ c → pv_sb sh d = pv_sb sh d := by
    intro d h4 n0; rfl
  have TT : ∀ d, d < 4 → d ≠ c → st' d = st d := by
    intro d h4 n0; rw [hst d, if_neg n0]
  have LLc : pv_lc (st' c) (fun j => k' j c) (got c) (need c) (pv_oc kp ow c) (pv_sb sh c) := by
    rw [hst c, if_pos rfl]
    rcases s9 with e | e | e | e <;> rw [e] at L <;> simp only [pv_lc] at L ⊢ <;> omega
  have LL : ∀ d, d < 4 → pv_lc (st' d) (fun j => k' j d) (got d) (need d) (pv_oc kp ow d) (pv_sb sh d) := by
    intro d h4
    by_cases n0 : d = c
    · subst n0; exact LLc
    rw [TT d h4 n0, OO d h4 n0, SS d h4 n0, show (fun j => k' j d) = (fun j => k j d) from funext (K d h4 n0)]
    exact hL d h4
  have X := pv_s4_1 hc (f := fun z => pv_xv (st z) (fun j => k j z) (pv_oc kp ow z)) (g := fun z => pv_xv (st' z) (fun j => k' j z) (pv_oc kp ow z)) (fun d h4 n0 => by
    show pv_xv (st' d) (fun j => k' j d) (pv_oc kp ow d) = pv_xv (st d) (fun j => k j d) (pv_oc kp ow d)
    rw [TT d h4 n0, OO d h4 n0, show (fun j => k' j d) = (fun j => k j d) from funext (K d h4 n0)])
  have Y := pv_s4_1 hc (f := fun c => k 4 c) (g := fun c => k' 4 c) (fun d h4 n0 => K d h4 n0 4)
  try simp only at X Y
  have xa : pv_xv (st c) (fun j => k j c) (pv_oc kp ow c) = 0 := by rcases s9 with e | e | e | e <;> rw [e] at L ⊢ <;> simp only [pv_lc, pv_xv] at L ⊢ <;> omega
  have xb : pv_xv (st' c) (fun j => k' j c) (pv_oc kp ow c) = 0 := by rw [hst c, if_pos rfl]; simp only [pv_xv]
  rw [xa, xb] at X
  refine ⟨LL, ?_, ?_, ?_, ?_, ?_, ?_, h13⟩
  · omega
  · omega
  · omega
  · omega
  · omega
  · exact hz
set_option maxHeartbeats 4000000 in
theorem pv_t_da4 {st st' : Nat → Nat} {k k' : Nat → Nat → Nat} {got need got' need' : Nat → Nat} {kp ow sh c n : Nat} (h : pv_li st k got need kp ow sh) (hc : c < 4) (h1 : 1 ≤ k 10 c) (h4 : st c = 4) (hst : ∀ d, st' d = if d = c then 1 else st d) (hk : ∀ j d, k' j d + pv_bk j d 9 c c n = k j d + 0) (h13 : ∀ d, k' 13 d ≤ 3 * k' 10 d) : pv_li st' k' got need kp ow sh := by
  obtain ⟨hL, hX, hF, hkp, how, hsh, hz, h13o⟩ := h
  have L := hL c hc
  rw [h4] at L
  simp only [pv_lc] at L
  have K : ∀ d, d < 4 → d ≠ c → ∀ j, k' j d = k j d := by
    intro d h4 n0 j
    have e := hk j d
    rw [pv_bk_0 (show c ≠ d by omega) (show c ≠ d by omega)] at e
    omega
  have C0 := hk 0 c
  have C1 := hk 1 c
  have C2 := hk 2 c
  have C3 := hk 3 c
  have C4 := hk 4 c
  have C5 := hk 5 c
  have C6 := hk 6 c
  have C7 := hk 7 c
  have C8 := hk 8 c
  have C9 := hk 9 c
  have C10 := hk 10 c
  have C11 := hk 11 c
  have C12 := hk 12 c
  have C13 := hk 13 c
  simp [pv_bk, show (4 : Nat) ≠ c by omega] at C0 C1 C2 C3 C4 C5 C6 C7 C8 C9 C10 C11 C12 C13
  have H10 := hk 10 4
  simp [pv_bk, show c ≠ 4 by omega] at H10
  have OO : ∀ d, d < 4 → d ≠ c → pv_oc kp ow d = pv_oc kp ow d := by
    intro d h4 n0; rfl
  have SS : ∀ d, d < 4 → d ≠ c → pv_sb sh d = pv_sb sh d := by
    intro d h4 n0; rfl
  have TT : ∀ d, d < 4 → d ≠ c → st' d = st d := by
    intro d h4 n0; rw [hst d, if_neg n0]
  have LLc : pv_lc (st' c) (fun j => k' j c) (got c) (need c) (pv_oc kp ow c) (pv_sb sh c) := by
    rw [hst c, if_pos rfl]
    simp only [pv_lc]
    omega
  have LL : ∀ d, d < 4 → pv_lc (st' d) (fun j => k' j d) (got d) (need d) (pv_oc kp ow d) (pv_sb sh d) := by
    intro d h4
    by_cases n0 : d = c
    · subst n0; exact LLc
    rw [TT d h4 n0, OO d h4 n0, SS d h4 n0, show (fun j => k' j d) = (fun j => k j d) from funext (K d h4 n0)]
    exact hL d h4
  have X := pv_s4_1 hc (f := fun z => pv_xv (st z) (fun j => k j z) (pv_oc kp ow z)) (g := fun z => pv_xv (st' z) (fun j => k' j z) (pv_oc kp ow z)) (fun d h4 n0 => by
    show pv_xv (st' d) (fun j => k' j d) (pv_oc kp ow d) = pv_xv (st d) (fun j => k j d) (pv_oc kp ow d)
    rw [TT d h4 n0, OO d h4 n0, show (fun j => k' j d) = (fun j => k j d) from funext (K d h4 n0)])
  have Y := pv_s4_1 hc (f := fun c => k 4 c) (g := fun c => k' 4 c) (fun d h4 n0 => K d h4 n0 4)
  try simp only at X Y
  have xa : pv_xv (st c) (fun j => k j c) (pv_oc kp ow c) = k 11 c := by rw [h4]; simp only [pv_xv]
  have xb : pv_xv (st' c) (fun j => k' j c) (pv_oc kp ow c) = 0 := by rw [hst c, if_pos rfl]; simp only [pv_xv]
  rw [xa, xb] at X
  refine ⟨LL, ?_, ?_, ?_, ?_, ?_, ?_, h13⟩
  · omega
  · omega
  · omega
  · omega
  · omega
  · exact hz
set_option maxHeartbeats 4000000 in
theorem pv_t_da5 {st st' : Nat → Nat} {k k' : Nat → Nat → Nat} {got need got' need' : Nat → Nat} {kp ow sh c n : Nat} (h : pv_li st k got need kp ow sh) (hc : c < 4) (h1 : 1 ≤ k 10 c) (h5 : st c = 5 ∨ st c = 7) (hdq : 1 ≤ k 8 c → ∃ d, d < 4 ∧ d ≠ c ∧ 1 ≤ k 9 d) (hst : ∀ d, st' d = if d = c then (if got c = n then 3 else if st c = 7 then 8 else 6) else st d) (hn : ∀ d, need' d = if d = c then n else need d) (hk : ∀ j d, k' j d + pv_bk j d 9 c c n = k j d + 0) (h13 : ∀ d, k' 13 d ≤ 3 * k' 10 d) : pv_li st' k' got need' kp ow sh := by
  obtain ⟨hL, hX, hF, hkp, how, hsh, hz, h13o⟩ := h
  have L := hL c hc
  have h13c := h13 c
  have h13d := h13o c
  have xa : pv_xv (st c) (fun j => k j c) (pv_oc kp ow c) = k 10 c := by rcases h5 with e | e <;> rw [e] <;> simp only [pv_xv]
  have d0 : k 8 c = 0 := by
    by_cases z : k 8 c = 0
    · exact z
    · obtain ⟨d, hd, hdc, h9⟩ := hdq (by omega)
      have Ld := hL d hd
      have sd := pv_lc_ack Ld (by first | omega | (simp only; omega)) (h13o d)
      have xd : 1 ≤ pv_xv (st d) (fun j => k j d) (pv_oc kp ow d) := by
        rcases sd with ⟨e | e, z⟩ | e | e <;> rw [e] <;> simp only [pv_xv] <;> omega
      have := pv_s4_le2 (f := fun c => pv_xv (st c) (fun j => k j c) (pv_oc kp ow c)) hd hc hdc
      try simp only at this
      rw [xa] at this
      omega
  have K : ∀ d, d < 4 → d ≠ c → ∀ j, k' j d = k j d := by
    intro d h4 n0 j
    have e := hk j d
    rw [pv_bk_0 (show c ≠ d by omega) (show c ≠ d by omega)] at e
    omega
  have C0 := hk 0 c
  have C1 := hk 1 c
  have C2 := hk 2 c
  have C3 := hk 3 c
  have C4 := hk 4 c
  have C5 := hk 5 c
  have C6 := hk 6 c
  have C7 := hk 7 c
  have C8 := hk 8 c
  have C9 := hk 9 c
  have C10 := hk 10 c
  have C11 := hk 11 c
  have C12 := hk 12 c
  have C13 := hk 13 c
  simp [pv_bk, show (4 : Nat) ≠ c by omega] at C0 C1 C2 C3 C4 C5 C6 C7 C8 C9 C10 C11 C12 C13
  have H10 := hk 10 4
  simp [pv_bk, show c ≠ 4 by omega] at H10
  have OO : ∀ d, d < 4 → d ≠ c → pv_oc kp ow d = pv_oc kp ow d := by
    intro d h4 n0; rfl
  have SS : ∀ d, d < 4 → d ≠ c → pv_sb sh d = pv_sb sh d := by
    intro d h4 n0; rfl
  have TT : ∀ d, d < 4 → d ≠ c → st' d = st d := by
    intro d h4 n0; rw [hst d, if_neg n0]
  have LLc : pv_lc (st' c) (fun j => k' j c) (got c) (need' c) (pv_oc kp ow c) (pv_sb sh c) := by
    rw [hst c, if_pos rfl, hn c, if_pos rfl]
    split
    · rcases h5 with e | e <;> rw [e] at L <;> simp only [pv_lc] at L ⊢ <;> omega
    · rcases h5 with e | e <;> rw [e] at L <;> simp [pv_lc] at L ⊢ <;> (try rw [e]) <;> simp [pv_lc] <;> omega
  have LL : ∀ d, d < 4 → pv_lc (st' d) (fun j => k' j d) (got d) (need' d) (pv_oc kp ow d) (pv_sb sh d) := by
    intro d h4
    by_cases n0 : d = c
    · subst n0; exact LLc
    rw [TT d h4 n0, OO d h4 n0, SS d h4 n0, show (fun j => k' j d) = (fun j => k j d) from funext (K d h4 n0), hn d, if_neg n0]
    exact hL d h4
  have X := pv_s4_1 hc (f := fun z => pv_xv (st z) (fun j => k j z) (pv_oc kp ow z)) (g := fun z => pv_xv (st' z) (fun j => k' j z) (pv_oc kp ow z)) (fun d h4 n0 => by
    show pv_xv (st' d) (fun j => k' j d) (pv_oc kp ow d) = pv_xv (st d) (fun j => k j d) (pv_oc kp ow d)
    rw [TT d h4 n0, OO d h4 n0, show (fun j => k' j d) = (fun j => k j d) from funext (K d h4 n0)])
  have Y := pv_s4_1 hc (f := fun c => k 4 c) (g := fun c => k' 4 c) (fun d h4 n0 => K d h4 n0 4)
  try simp only at X Y
  have xb : pv_xv (st' c) (fun j => k' j c) (pv_oc kp ow c) = 1 := by
    rw [hst c, if_pos rfl]; split
    · simp only [pv_xv]
    · split <;> simp only [pv_xv]
  have z10 : k 10 c = 1 := by rcases h5 with e | e <;> rw [e] at L <;> simp only [pv_lc] at L <;> omega
  rw [xa, xb] at X
  refine ⟨LL, ?_, ?_, ?_, ?_, ?_, ?_, h13⟩
  · omega
  · omega
  · omega
  · omega
  · omega
  · exact hz
set_option maxHeartbeats 4000000 in
theorem pv_t_so {st st' : Nat → Nat} {k k' : Nat → Nat → Nat} {got need got' need' : Nat → Nat} {kp ow sh c : Nat} (h : pv_li st k got need kp ow sh) (hc : c < 4) (h1 : 1 ≤ k 11 c) (hst : ∀ d, st' d = if d = c then 2 else st d) (hk : ∀ j d, k' j d + pv_bk j d 10 c c 0 = k j d + 0) (h13 : ∀ d, k' 13 d ≤ 3 * k' 10 d) : pv_li st' k' got need kp ow sh := by
  obtain ⟨hL, hX, hF, hkp, how, hsh, hz, h13o⟩ := h
  have L := hL c hc
  have h4 := pv_lc_so L h1
  rw [h4] at L
  simp only [pv_lc] at L
  have K : ∀ d, d < 4 → d ≠ c → ∀ j, k' j d = k j d := by
    intro d h4 n0 j
    have e := hk j d
    rw [pv_bk_0 (show c ≠ d by omega) (show c ≠ d by omega)] at e
    omega
  have C0 := hk 0 c
  have C1 := hk 1 c
  have C2 := hk 2 c
  have C3 := hk 3 c
  have C4 := hk 4 c
  have C5 := hk 5 c
  have C6 := hk 6 c
  have C7 := hk 7 c
  have C8 := hk 8 c
  have C9 := hk 9 c
  have C10 := hk 10 c
  have C11 := hk 11 c
  have C12 := hk 12 c
  have C13 := hk 13 c
  simp [pv_bk, show (4 : Nat) ≠ c by omega] at C0 C1 C2 C3 C4 C5 C6 C7 C8 C9 C10 C11 C12 C13
  have H10 := hk 10 4
  simp [pv_bk, show c ≠ 4 by omega] at H10
  have OO : ∀ d, d < 4 → d ≠ c → pv_oc kp ow d = pv_oc kp ow d := by
    intro d h4 n0; rfl
  have SS : ∀ d, d < 4 → d ≠ c → pv_sb sh d = pv_sb sh d := by
    intro d h4 n0; rfl
  have TT : ∀ d, d < 4 → d ≠ c → st' d = st d := by
    intro d h4 n0; rw [hst d, if_neg n0]
  have LLc : pv_lc (st' c) (fun j => k' j c) (got c) (need c) (pv_oc kp ow c) (pv_sb sh c) := by
    rw [hst c, if_pos rfl]
    simp only [pv_lc]
    omega
  have LL : ∀ d, d < 4 → pv_lc (st' d) (fun j => k' j d) (got d) (need d) (pv_oc kp ow d) (pv_sb sh d) := by
    intro d h4
    by_cases n0 : d = c
    · subst n0; exact LLc
    rw [TT d h4 n0, OO d h4 n0, SS d h4 n0, show (fun j => k' j d) = (fun j => k j d) from funext (K d h4 n0)]
    exact hL d h4
  have X := pv_s4_1 hc (f := fun z => pv_xv (st z) (fun j => k j z) (pv_oc kp ow z)) (g := fun z => pv_xv (st' z) (fun j => k' j z) (pv_oc kp ow z)) (fun d h4 n0 => by
    show pv_xv (st' d) (fun j => k' j d) (pv_oc kp ow d) = pv_xv (st d) (fun j => k j d) (pv_oc kp ow d)
    rw [TT d h4 n0, OO d h4 n0, show (fun j => k' j d) = (fun j => k j d) from funext (K d h4 n0)])
  have Y := pv_s4_1 hc (f := fun c => k 4 c) (g := fun c => k' 4 c) (fun d h4 n0 => K d h4 n0 4)
  try simp only at X Y
  have xa : pv_xv (st c) (fun j => k j c) (pv_oc kp ow c) = k 11 c := by rw [h4]; simp only [pv_xv]
  have xb : pv_xv (st' c) (fun j => k' j c) (pv_oc kp ow c) = 1 := by rw [hst c, if_pos rfl]; simp only [pv_xv]
  rw [xa, xb] at X
  refine ⟨LL, ?_, ?_, ?_, ?_, ?_, ?_, h13⟩
  · omega
  · omega
  · omega
  · omega
  · omega
  · exact hz
set_option maxHeartbeats 4000000 in
theorem pv_t_dd {st st' : Nat → Nat} {k k' : Nat → Nat → Nat} {got need got' need' : Nat → Nat} {kp ow sh c : Nat} (h : pv_li st k got need kp ow sh) (hc : c < 4) (h1 : 1 ≤ k 12 c) (hst : ∀ d, st' d = if d = c then (if (st c = 6 ∨ st c = 8) ∧ got c + 1 = need c then 3 else st c) else st d) (hg : ∀ d, got' d = if d = c then got c + 1 else got d) (hk : ∀ j d, k' j d + pv_bk j d 11 c c 0 = k j d + 0) (h13 : ∀ d, k' 13 d ≤ 3 * k' 10 d) : pv_li st' k' got' need kp ow sh := by
  obtain ⟨hL, hX, hF, hkp, how, hsh, hz, h13o⟩ := h
  have L := hL c hc
  have sa := pv_lc_ack L (by first | omega | (simp only; omega)) (h13o c)
  have sb : st c = 5 ∨ st c = 7 ∨ st c = 6 ∨ st c = 8 := by omega
  have K : ∀ d, d < 4 → d ≠ c → ∀ j, k' j d = k j d := by
    intro d h4 n0 j
    have e := hk j d
    rw [pv_bk_0 (show c ≠ d by omega) (show c ≠ d by omega)] at e
    omega
  have C0 := hk 0 c
  have C1 := hk 1 c
  have C2 := hk 2 c
  have C3 := hk 3 c
  have C4 := hk 4 c
  have C5 := hk 5 c
  have C6 := hk 6 c
  have C7 := hk 7 c
  have C8 := hk 8 c
  have C9 := hk 9 c
  have C10 := hk 10 c
  have C11 := hk 11 c
  have C12 := hk 12 c
  have C13 := hk 13 c
  simp [pv_bk, show (4 : Nat) ≠ c by omega] at C0 C1 C2 C3 C4 C5 C6 C7 C8 C9 C10 C11 C12 C13
  have H10 := hk 10 4
  simp [pv_bk, show c ≠ 4 by omega] at H10
  have OO : ∀ d, d < 4 → d ≠ c → pv_oc kp ow d = pv_oc kp ow d := by
    intro d h4 n0; rfl
  have SS : ∀ d, d < 4 → d ≠ c → pv_sb sh d = pv_sb sh d := by
    intro d h4 n0; rfl
  have TT : ∀ d, d < 4 → d ≠ c → st' d = st d := by
    intro d h4 n0; rw [hst d, if_neg n0]
  have LLc : pv_lc (st' c) (fun j => k' j c) (got' c) (need c) (pv_oc kp ow c) (pv_sb sh c) := by
    rw [hst c, if_pos rfl, hg c, if_pos rfl]
    split
    · rcases sb with e | e | e | e <;> rw [e] at L <;> simp only [pv_lc] at L ⊢ <;> omega
    · rcases sb with e | e | e | e <;> rw [e] at L ⊢ <;> simp only [pv_lc] at L ⊢ <;> omega
  have LL : ∀ d, d < 4 → pv_lc (st' d) (fun j => k' j d) (got' d) (need d) (pv_oc kp ow d) (pv_sb sh d) := by
    intro d h4
    by_cases n0 : d = c
    · subst n0; exact LLc
    rw [TT d h4 n0, OO d h4 n0, SS d h4 n0, show (fun j => k' j d) = (fun j => k j d) from funext (K d h4 n0), hg d, if_neg n0]
    exact hL d h4
  have X := pv_s4_1 hc (f := fun z => pv_xv (st z) (fun j => k j z) (pv_oc kp ow z)) (g := fun z => pv_xv (st' z) (fun j => k' j z) (pv_oc kp ow z)) (fun d h4 n0 => by
    show pv_xv (st' d) (fun j => k' j d) (pv_oc kp ow d) = pv_xv (st d) (fun j => k j d) (pv_oc kp ow d)
    rw [TT d h4 n0, OO d h4 n0, show (fun j => k' j d) = (fun j => k j d) from funext (K d h4 n0)])
  have Y := pv_s4_1 hc (f := fun c => k 4 c) (g := fun c => k' 4 c) (fun d h4 n0 => K d h4 n0 4)
  try simp only at X Y
  have xa : pv_xv (st' c) (fun j => k' j c) (pv_oc kp ow c) = pv_xv (st c) (fun j => k j c) (pv_oc kp ow c) := by
    rw [hst c, if_pos rfl]; split
    · next z => rcases z.1 with e | e <;> rw [e] <;> simp only [pv_xv]
    · simp only [pv_xv, C4, C5, C10, C11]
  rw [xa] at X
  refine ⟨LL, ?_, ?_, ?_, ?_, ?_, ?_, h13⟩
  · omega
  · omega
  · omega
  · omega
  · omega
  · exact hz
end
section
/-! The abstract value: (messages, Int32 numbers, Nat numbers).
Int32: 0 tally (core, line) 1 value (core, line) 2 operand 3 finished 4 result (core, 0) 5 memory (0, line)
Nat: 0 state 1 got 2 needed (core, line) 3 waits 4 operation (core, 0) 5 keeping 6 owner 7 sharers (0, line) -/
abbrev pv_Msg : Type := Nat × Nat × Nat × Nat × Nat × Nat × Int32
def mkd (m : pv_Msg) : Nat := m.1
def mln (m : pv_Msg) : Nat := m.2.1
def msn (m : pv_Msg) : Nat := m.2.2.1
def mto (m : pv_Msg) : Nat := m.2.2.2.1
def mrq (m : pv_Msg) : Nat := m.2.2.2.2.1
def mnm (m : pv_Msg) : Nat := m.2.2.2.2.2.1
def mcv (m : pv_Msg) : Int32 := m.2.2.2.2.2.2
abbrev pv_V : Type := List pv_Msg × (Nat → Nat → Nat → Int32) × (Nat → Nat → Nat → Nat)
def pv_u3 {α : Type} (f : Nat → Nat → Nat → α) (t c l : Nat) (x : α) : Nat → Nat → Nat → α := fun t' c' l' => if t' = t ∧ c' = c ∧ l' = l then x else f t' c' l'
def pv_sI (v : pv_V) (t c l : Nat) (x : Int32) : pv_V := (v.1, pv_u3 v.2.1 t c l x, v.2.2)
def pv_sN (v : pv_V) (t c l x : Nat) : pv_V := (v.1, v.2.1, pv_u3 v.2.2 t c l x)
def pv_snd (v : pv_V) (m : pv_Msg) : pv_V := (v.1 ++ [m], pv_u3 v.2.1 0 (mrq m) (mln m) (if mkd m ≤ 4 then 1 else v.2.1 0 (mrq m) (mln m) + 1), v.2.2)
def pv_del (v : pv_V) (k : Nat) : pv_V := (v.1.eraseIdx k, v.2.1, v.2.2)
/-- counters of a line -/
def pv_b1 (j a d : Nat) (m : pv_Msg) : Nat := if mln m = a then pv_bk j d (mkd m) (mto m) (mrq m) (mnm m) else 0
def pv_cn (j a d : Nat) (L : List pv_Msg) : Nat := (L.map (pv_b1 j a d)).sum
theorem pv_cn_app (j a d : Nat) (L K : List pv_Msg) : pv_cn j a d (L ++ K) = pv_cn j a d L + pv_cn j a d K := by
  simp [pv_cn]
theorem pv_cn_one (j a d : Nat) (m : pv_Msg) : pv_cn j a d [m] = pv_b1 j a d m := by
  simp [pv_cn]
theorem pv_cn_nil (j a d : Nat) : pv_cn j a d [] = 0 := rfl
theorem pv_cn_cons (j a d : Nat) (m : pv_Msg) (L : List pv_Msg) : pv_cn j a d (m :: L) = pv_b1 j a d m + pv_cn j a d L := by
  simp [pv_cn]
theorem pv_cn_del (j a d : Nat) : ∀ (L : List pv_Msg) (k : Nat) (m : pv_Msg), L[k]? = some m → pv_cn j a d (L.eraseIdx k) + pv_b1 j a d m = pv_cn j a d L
  | [], k, m, h => by simp at h
  | x :: L, 0, m, h => by
    simp only [List.getElem?_cons_zero, Option.some.injEq] at h
    subst h
    rw [List.eraseIdx_cons_zero, pv_cn_cons]
    omega
  | x :: L, k + 1, m, h => by
    rw [List.getElem?_cons_succ] at h
    rw [List.eraseIdx_cons_succ, pv_cn_cons, pv_cn_cons]
    have := pv_cn_del j a d L k m h
    omega
theorem pv_cn_in {j a d : Nat} {L : List pv_Msg} {m : pv_Msg} (h : m ∈ L) : pv_b1 j a d m ≤ pv_cn j a d L := by
  obtain ⟨k, hk⟩ := List.getElem?_of_mem h
  have := pv_cn_del j a d L k m hk
  omega
theorem pv_cn_ex {j a d : Nat} : ∀ {L : List pv_Msg}, 1 ≤ pv_cn j a d L → ∃ m ∈ L, 1 ≤ pv_b1 j a d m
  | [], h => by simp [pv_cn] at h
  | x :: L, h => by
    rw [pv_cn_cons] at h
    by_cases z : 1 ≤ pv_b1 j a d x
    · exact ⟨x, List.mem_cons_self, z⟩
    · obtain ⟨m, hm, h1⟩ := pv_cn_ex (j := j) (a := a) (d := d) (L := L) (by omega)
      exact ⟨m, List.mem_cons_of_mem _ hm, h1⟩
/-- a message that may be -/
def pv_wf (m : pv_Msg) : Prop := mln m < 4 ∧ mrq m < 4 ∧ mnm m ≤ 3 ∧
  ((mkd m ≤ 4 ∧ mto m = 4 ∧ mnm m = 0) ∨ ((mkd m = 5 ∨ mkd m = 6) ∧ mto m < 4 ∧ mnm m = 0) ∨ (mkd m = 7 ∧ mto m < 4 ∧ mto m ≠ mrq m ∧ mnm m = 0) ∨ (mkd m = 8 ∧ mto m = mrq m ∧ mnm m = 0) ∨ (mkd m = 9 ∧ (mto m = mrq m ∨ (mto m = 4 ∧ mnm m = 0))) ∨ ((mkd m = 10 ∨ mkd m = 11) ∧ mto m = mrq m ∧ mnm m = 0))
def pv_ord (m : pv_Msg) : Prop := 5 ≤ mkd m ∧ mkd m ≤ 8
/-- no FORWARD or DROP waits behind a LEFT to the same core of the same line -/
def pv_rl (m n : pv_Msg) : Prop := ¬ (mkd m = 8 ∧ 5 ≤ mkd n ∧ mkd n ≤ 7 ∧ mln m = mln n ∧ mto m = mto n)
theorem pv_cn_13 {a d : Nat} : ∀ {L : List pv_Msg}, (∀ m ∈ L, pv_wf m) → pv_cn 13 a d L ≤ 3 * pv_cn 10 a d L
  | [], _ => by simp [pv_cn]
  | x :: L, h => by
    have h1 := pv_cn_13 (a := a) (d := d) (L := L) (fun m hm => h m (List.mem_cons_of_mem _ hm))
    have h2 := (h x List.mem_cons_self).2.2.1
    rw [pv_cn_cons, pv_cn_cons]
    have h3 : pv_b1 13 a d x ≤ 3 * pv_b1 10 a d x := by
      simp only [pv_b1, pv_bk]
      split
      · split <;> omega
      · omega
    omega
def pv_LI (a : Nat) (v : pv_V) : Prop := pv_li (fun c => v.2.2 0 c a) (fun j d => pv_cn j a d v.1) (fun c => v.2.2 1 c a) (fun c => v.2.2 2 c a) (v.2.2 5 0 a) (v.2.2 6 0 a) (v.2.2 7 0 a)
/-- a core's one operation -/
def pv_CO (v : pv_V) (c : Nat) : Prop := v.2.2 3 c 0 ≤ 1 ∧ v.2.2 4 c 0 ≤ 2 ∧ (∀ l, l < 4 → 4 ≤ v.2.2 0 c l → v.2.2 0 c l ≤ 8 → v.2.2 3 c 0 = 1) ∧
  (∀ l l', l < 4 → l' < 4 → 4 ≤ v.2.2 0 c l → v.2.2 0 c l ≤ 8 → 4 ≤ v.2.2 0 c l' → v.2.2 0 c l' ≤ 8 → l = l') ∧ (∀ l, l < 4 → v.2.2 0 c l = 4 → v.2.2 4 c 0 = 0)
def pv_Inv (v : pv_V) : Prop := (∀ m ∈ v.1, pv_wf m) ∧ v.1.Pairwise pv_rl ∧ (∀ a, a < 4 → pv_LI a v) ∧ ∀ c, c < 4 → pv_CO v c
/-- two lines that look alike -/
theorem pv_LI_same {a : Nat} {v w : pv_V} (h : pv_LI a v) (h0 : ∀ c, w.2.2 0 c a = v.2.2 0 c a) (h1 : ∀ c, w.2.2 1 c a = v.2.2 1 c a) (h2 : ∀ c, w.2.2 2 c a = v.2.2 2 c a) (h5 : w.2.2 5 0 a = v.2.2 5 0 a) (h6 : w.2.2 6 0 a = v.2.2 6 0 a) (h7 : w.2.2 7 0 a = v.2.2 7 0 a) (hk : ∀ j d, pv_cn j a d w.1 = pv_cn j a d v.1) : pv_LI a w := by
  unfold pv_LI at *
  rw [show (fun c => w.2.2 0 c a) = (fun c => v.2.2 0 c a) from funext h0, show (fun c => w.2.2 1 c a) = (fun c => v.2.2 1 c a) from funext h1, show (fun c => w.2.2 2 c a) = (fun c => v.2.2 2 c a) from funext h2, h5, h6, h7, show (fun j d => pv_cn j a d w.1) = (fun j d => pv_cn j a d v.1) from funext fun j => funext fun d => hk j d]
  exact h
/-! How many messages can wait -/
theorem pv_lc_tot {st : Nat} {k : Nat → Nat} {got need o s : Nat} (h : pv_lc st k got need o s) (h13 : k 13 ≤ 3 * k 10) : k 0 + k 1 + k 2 + k 3 + k 6 + k 7 + k 10 + k 11 + k 9 + k 12 ≤ 1 + 3 * pv_xv st k o := by
  have h12 := pv_lc_le h
  rcases (show st = 0 ∨ st = 1 ∨ st = 2 ∨ st = 3 ∨ st = 4 ∨ st = 5 ∨ st = 6 ∨ st = 7 ∨ st = 8 ∨ st = 9 ∨ st = 10 ∨ st = 11 ∨ st = 12 by omega) with rfl | rfl | rfl | rfl | rfl | rfl | rfl | rfl | rfl | rfl | rfl | rfl | rfl <;> simp only [pv_lc, pv_xv] at h ⊢ <;> omega
def pv_kk (k : Nat → Nat → Nat) (c : Nat) : Nat := k 0 c + k 1 c + k 2 c + k 3 c + k 6 c + k 7 c + k 10 c + k 11 c + k 9 c + k 12 c
theorem pv_li_tot {st : Nat → Nat} {k : Nat → Nat → Nat} {got need : Nat → Nat} {kp ow sh : Nat} (h : pv_li st k got need kp ow sh) : pv_s4 (pv_kk k) + k 10 4 ≤ 7 := by
  obtain ⟨hL, hX, hF, hkp, how, hsh, hz, h13⟩ := h
  have t0 := pv_lc_tot (hL 0 (by omega)) (h13 0)
  have t1 := pv_lc_tot (hL 1 (by omega)) (h13 1)
  have t2 := pv_lc_tot (hL 2 (by omega)) (h13 2)
  have t3 := pv_lc_tot (hL 3 (by omega)) (h13 3)
  simp only [pv_s4, pv_kk] at *
  omega
def pv_tl (a : Nat) (L : List pv_Msg) : Nat := pv_s4 (pv_kk (fun j d => pv_cn j a d L)) + pv_cn 10 a 4 L
theorem pv_tl_cons (a : Nat) (m : pv_Msg) (L : List pv_Msg) : pv_tl a (m :: L) = pv_tl a [m] + pv_tl a L := by
  simp only [pv_tl, pv_s4, pv_kk, pv_cn_cons, pv_cn_nil]
  omega
theorem pv_tl_one {m : pv_Msg} (h : pv_wf m) (a : Nat) : pv_tl a [m] = if mln m = a then 1 else 0 := by
  simp only [pv_tl, pv_s4, pv_kk, pv_cn_one, pv_b1]
  split
  · obtain ⟨h1, h2, h3, h4⟩ := h
    generalize mkd m = kd at *
    generalize mto m = to at *
    generalize mrq m = rq at *
    generalize mnm m = n at *
    rcases h4 with ⟨h4, rfl, h5⟩ | ⟨h4, h6, h5⟩ | ⟨rfl, h6, h7, h5⟩ | ⟨rfl, rfl, h5⟩ | ⟨rfl, rfl | ⟨rfl, h5⟩⟩ | ⟨h4, rfl, h5⟩
    · rcases (show kd = 0 ∨ kd = 1 ∨ kd = 2 ∨ kd = 3 ∨ kd = 4 by omega) with rfl | rfl | rfl | rfl | rfl <;> rcases (show rq = 0 ∨ rq = 1 ∨ rq = 2 ∨ rq = 3 by omega) with rfl | rfl | rfl | rfl <;> simp [pv_bk]
    · rcases h4 with rfl | rfl <;> rcases (show rq = 0 ∨ rq = 1 ∨ rq = 2 ∨ rq = 3 by omega) with rfl | rfl | rfl | rfl <;> simp [pv_bk]
    · rcases (show rq = 0 ∨ rq = 1 ∨ rq = 2 ∨ rq = 3 by omega) with rfl | rfl | rfl | rfl <;> simp [pv_bk]
    · rcases (show to = 0 ∨ to = 1 ∨ to = 2 ∨ to = 3 by omega) with rfl | rfl | rfl | rfl <;> simp [pv_bk]
    · rcases (show to = 0 ∨ to = 1 ∨ to = 2 ∨ to = 3 by omega) with rfl | rfl | rfl | rfl <;> simp [pv_bk]
    · simp [pv_bk]
    · rcases h4 with rfl | rfl <;> rcases (show to = 0 ∨ to = 1 ∨ to = 2 ∨ to = 3 by omega) with rfl | rfl | rfl | rfl <;> simp [pv_bk]
  · simp
theorem pv_len : ∀ {L : List pv_Msg}, (∀ m ∈ L, pv_wf m) → L.length = pv_tl 0 L + pv_tl 1 L + pv_tl 2 L + pv_tl 3 L
  | [], _ => by simp [pv_tl, pv_s4, pv_kk, pv_cn]
  | x :: L, h => by
    have h1 := pv_len (L := L) (fun m hm => h m (List.mem_cons_of_mem _ hm))
    have h2 := h x List.mem_cons_self
    have h3 := h2.1
    rw [List.length_cons, h1, pv_tl_cons 0, pv_tl_cons 1, pv_tl_cons 2, pv_tl_cons 3, pv_tl_one h2, pv_tl_one h2, pv_tl_one h2, pv_tl_one h2]
    rcases (show mln x = 0 ∨ mln x = 1 ∨ mln x = 2 ∨ mln x = 3 by omega) with e | e | e | e <;> rw [e] <;> simp <;> omega
theorem pv_Inv_len {v : pv_V} (h : pv_Inv v) : v.1.length ≤ 28 := by
  have t0 := pv_li_tot (h.2.2.1 0 (by omega))
  have t1 := pv_li_tot (h.2.2.1 1 (by omega))
  have t2 := pv_li_tot (h.2.2.1 2 (by omega))
  have t3 := pv_li_tot (h.2.2.1 3 (by omega))
  have := pv_len h.1
  simp only [pv_tl] at this
  omega
/-! Steps of the abstract value, and that they keep the invariant -/
theorem pv_wf_step {L N : List pv_Msg} {k : Nat} (h : ∀ m ∈ L, pv_wf m) (hN : ∀ m ∈ N, pv_wf m) : ∀ m ∈ L.eraseIdx k ++ N, pv_wf m := by
  intro m hm
  rcases List.mem_append.mp hm with h1 | h1
  · exact h m (List.mem_of_mem_eraseIdx h1)
  · exact hN m h1
theorem pv_rl_free : ∀ {N : List pv_Msg}, (∀ n ∈ N, mkd n ≠ 8) → N.Pairwise pv_rl
  | [], _ => List.Pairwise.nil
  | x :: N, h => List.Pairwise.cons (fun y _ => fun z => h x List.mem_cons_self z.1) (pv_rl_free (fun n hn => h n (List.mem_cons_of_mem _ hn)))
theorem pv_rl_step {L N : List pv_Msg} {k : Nat} (h : L.Pairwise pv_rl) (hN : N.Pairwise pv_rl) (hx : ∀ n ∈ N, 5 ≤ mkd n → mkd n ≤ 7 → pv_cn 3 (mln n) (mto n) L = 0) : (L.eraseIdx k ++ N).Pairwise pv_rl := by
  refine List.pairwise_append.mpr ⟨h.sublist (List.eraseIdx_sublist ..), hN, fun x hx' y hy => ?_⟩
  rintro ⟨e1, e2, e3, e4, e5⟩
  have h0 := hx y hy e2 e3
  have h1 := pv_cn_in (j := 3) (a := mln y) (d := mto y) (List.mem_of_mem_eraseIdx hx')
  have h2 : pv_b1 3 (mln y) (mto y) x = 1 := by simp [pv_b1, pv_bk, e1, e4, e5]
  omega
theorem pv_cn_step {L N : List pv_Msg} {k : Nat} {m : pv_Msg} (h : L[k]? = some m) (j a d : Nat) : pv_cn j a d (L.eraseIdx k ++ N) + pv_b1 j a d m = pv_cn j a d L + pv_cn j a d N := by
  rw [pv_cn_app]
  have := pv_cn_del j a d L k m h
  omega
theorem pv_b1_is (j a d kd s t r n : Nat) (x : Int32) : pv_b1 j a d (kd, a, s, t, r, n, x) = pv_bk j d kd t r n := by
  simp [pv_b1, mln, mkd, mto, mrq, mnm]
theorem pv_b1_ne (j d kd s t r n : Nat) (x : Int32) {a b : Nat} (h : a ≠ b) : pv_b1 j b d (kd, a, s, t, r, n, x) = 0 := by
  simp [pv_b1, mln, h]
theorem pv_b1_line {j d a b : Nat} {m : pv_Msg} (h : mln m = a) (hb : b ≠ a) : pv_b1 j b d m = 0 := by
  unfold pv_b1
  rw [h, if_neg (Ne.symm hb)]
/-- a core's operation, when one state changes -/
theorem pv_CO_st {v w : pv_V} {c c0 a : Nat} {s' : Nat} (h : pv_CO v c) (h3 : ∀ d, w.2.2 3 d 0 = v.2.2 3 d 0) (h4 : ∀ d, w.2.2 4 d 0 = v.2.2 4 d 0) (h0 : ∀ d l, w.2.2 0 d l = if d = c0 ∧ l = a then s' else v.2.2 0 d l)
    (hs : 4 ≤ s' → s' ≤ 8 → 4 ≤ v.2.2 0 c0 a ∧ v.2.2 0 c0 a ≤ 8 ∧ (s' = 4 → v.2.2 0 c0 a = 4)) : pv_CO w c := by
  obtain ⟨q1, q2, q3, q4, q5⟩ := h
  refine ⟨by rw [h3]; exact q1, by rw [h4]; exact q2, fun l hl e1 e2 => ?_, fun l l' hl hl' e1 e2 e3 e4 => ?_, fun l hl e1 => ?_⟩
  · rw [h0] at e1 e2
    rw [h3]
    split at e1
    · next z => obtain ⟨rfl, rfl⟩ := z; rw [if_pos ⟨rfl, rfl⟩] at e2; have := hs e1 e2; exact q3 l hl this.1 this.2.1
    · next z => rw [if_neg z] at e2; exact q3 l hl e1 e2
  · rw [h0] at e1 e2 e3 e4
    have g1 : 4 ≤ v.2.2 0 c l ∧ v.2.2 0 c l ≤ 8 := by
      split at e1
      · next z => obtain ⟨rfl, rfl⟩ := z; rw [if_pos ⟨rfl, rfl⟩] at e2; have := hs e1 e2; exact ⟨this.1, this.2.1⟩
      · next z => rw [if_neg z] at e2; exact ⟨e1, e2⟩
    have g2 : 4 ≤ v.2.2 0 c l' ∧ v.2.2 0 c l' ≤ 8 := by
      split at e3
      · next z => obtain ⟨rfl, rfl⟩ := z; rw [if_pos ⟨rfl, rfl⟩] at e4; have := hs e3 e4; exact ⟨this.1, this.2.1⟩
      · next z => rw [if_neg z] at e4; exact ⟨e3, e4⟩
    exact q4 l l' hl hl' g1.1 g1.2 g2.1 g2.2
  · rw [h0] at e1
    rw [h4]
    split at e1
    · next z => obtain ⟨rfl, rfl⟩ := z; exact q5 l hl ((hs (by omega) (by omega)).2.2 e1)
    · next z => exact q5 l hl e1
/-- an operation is done: the one state of 4 .. 8 goes to 1, 2 or 3 -/
theorem pv_CO_fin {v w : pv_V} {c c0 a : Nat} {s' : Nat} (h : pv_CO v c) (ha : a < 4) (h3 : ∀ d, w.2.2 3 d 0 = if d = c0 then 0 else v.2.2 3 d 0) (h4 : ∀ d, w.2.2 4 d 0 = v.2.2 4 d 0) (h0 : ∀ d l, w.2.2 0 d l = if d = c0 ∧ l = a then s' else v.2.2 0 d l)
    (hs : s' ≤ 3) (hv : v.2.2 3 c0 0 = 0 ∨ (4 ≤ v.2.2 0 c0 a ∧ v.2.2 0 c0 a ≤ 8)) : pv_CO w c := by
  obtain ⟨q1, q2, q3, q4, q5⟩ := h
  by_cases hc : c = c0
  · subst hc
    have no : ∀ l, l < 4 → ¬ (4 ≤ w.2.2 0 c l ∧ w.2.2 0 c l ≤ 8) := by
      intro l hl e
      rw [h0] at e
      by_cases z : l = a
      · subst z; rw [if_pos ⟨rfl, rfl⟩] at e; omega
      · rw [if_neg (fun q => z q.2)] at e
        rcases hv with hv | hv
        · have := q3 l hl e.1 e.2; omega
        · exact z (q4 l a hl ha e.1 e.2 hv.1 hv.2)
    refine ⟨by rw [h3, if_pos rfl]; omega, by rw [h4]; exact q2, fun l hl e1 e2 => absurd ⟨e1, e2⟩ (no l hl), fun l l' hl hl' e1 e2 e3 e4 => absurd ⟨e1, e2⟩ (no l hl), fun l hl e1 => absurd (show 4 ≤ w.2.2 0 c l ∧ w.2.2 0 c l ≤ 8 by omega) (no l hl)⟩
  · have e0 : ∀ l, w.2.2 0 c l = v.2.2 0 c l := fun l => by rw [h0, if_neg (fun q => hc q.1)]
    refine ⟨by rw [h3, if_neg hc]; exact q1, by rw [h4]; exact q2, fun l hl => ?_, fun l l' hl hl' => ?_, fun l hl => ?_⟩
    · rw [e0, h3, if_neg hc]; exact q3 l hl
    · rw [e0, e0]; exact q4 l l' hl hl'
    · rw [e0, h4]; exact q5 l hl
/-- an operation begins -/
theorem pv_CO_go {v w : pv_V} {c c0 a o : Nat} {s' : Nat} (h : pv_CO v c) (h3 : ∀ d, w.2.2 3 d 0 = if d = c0 then 1 else v.2.2 3 d 0) (h4 : ∀ d, w.2.2 4 d 0 = if d = c0 then o else v.2.2 4 d 0) (h0 : ∀ d l, w.2.2 0 d l = if d = c0 ∧ l = a then s' else v.2.2 0 d l)
    (ho : o ≤ 2) (hs : s' = 4 → o = 0) (hv : v.2.2 3 c0 0 = 0) : pv_CO w c := by
  obtain ⟨q1, q2, q3, q4, q5⟩ := h
  by_cases hc : c = c0
  · subst hc
    have no : ∀ l, l < 4 → l ≠ a → ¬ (4 ≤ w.2.2 0 c l ∧ w.2.2 0 c l ≤ 8) := by
      intro l hl z e
      rw [h0, if_neg (fun q => z q.2)] at e
      have := q3 l hl e.1 e.2
      omega
    refine ⟨by rw [h3, if_pos rfl]; omega, by rw [h4, if_pos rfl]; exact ho, fun l hl e1 e2 => by rw [h3, if_pos rfl], fun l l' hl hl' e1 e2 e3 e4 => ?_, fun l hl e1 => ?_⟩
    · by_cases z : l = a
      · by_cases z' : l' = a
        · rw [z, z']
        · exact absurd ⟨e3, e4⟩ (no l' hl' z')
      · exact absurd ⟨e1, e2⟩ (no l hl z)
    · by_cases z : l = a
      · subst z; rw [h0, if_pos ⟨rfl, rfl⟩] at e1; rw [h4, if_pos rfl]; exact hs e1
      · exact absurd (show 4 ≤ w.2.2 0 c l ∧ w.2.2 0 c l ≤ 8 by omega) (no l hl z)
  · have e0 : ∀ l, w.2.2 0 c l = v.2.2 0 c l := fun l => by rw [h0, if_neg (fun q => hc q.1)]
    refine ⟨by rw [h3, if_neg hc]; exact q1, by rw [h4, if_neg hc]; exact q2, fun l hl => ?_, fun l l' hl hl' => ?_, fun l hl => ?_⟩
    · rw [e0, h3, if_neg hc]; exact q3 l hl
    · rw [e0, e0]; exact q4 l l' hl hl'
    · rw [e0, h4, if_neg hc]; exact q5 l hl
/-- the operation of a core that begins and is done at once, or is only set -/
theorem pv_CO_op {v w : pv_V} {c c0 a o : Nat} {s' : Nat} (h : pv_CO v c) (h3 : ∀ d, w.2.2 3 d 0 = v.2.2 3 d 0) (h4 : ∀ d, w.2.2 4 d 0 = if d = c0 then o else v.2.2 4 d 0) (h0 : ∀ d l, w.2.2 0 d l = if d = c0 ∧ l = a then s' else v.2.2 0 d l)
    (ho : o ≤ 2) (hs : s' ≤ 3) (hv : v.2.2 3 c0 0 = 0) : pv_CO w c := by
  obtain ⟨q1, q2, q3, q4, q5⟩ := h
  by_cases hc : c = c0
  · subst hc
    have no : ∀ l, l < 4 → ¬ (4 ≤ w.2.2 0 c l ∧ w.2.2 0 c l ≤ 8) := by
      intro l hl e
      rw [h0] at e
      by_cases z : l = a
      · subst z; rw [if_pos ⟨rfl, rfl⟩] at e; omega
      · rw [if_neg (fun q => z q.2)] at e
        have := q3 l hl e.1 e.2
        omega
    refine ⟨by rw [h3]; exact q1, by rw [h4, if_pos rfl]; exact ho, fun l hl e1 e2 => absurd ⟨e1, e2⟩ (no l hl), fun l l' hl hl' e1 e2 e3 e4 => absurd ⟨e1, e2⟩ (no l hl), fun l hl e1 => absurd (show 4 ≤ w.2.2 0 c l ∧ w.2.2 0 c l ≤ 8 by omega) (no l hl)⟩
  · have e0 : ∀ l, w.2.2 0 c l = v.2.2 0 c l := fun l => by rw [h0, if_neg (fun q => hc q.1)]
    refine ⟨by rw [h3]; exact q1, by rw [h4, if_neg hc]; exact q2, fun l hl => ?_, fun l l' hl hl' => ?_, fun l hl => ?_⟩
    · rw [e0, h3]; exact q3 l hl
    · rw [e0, e0]; exact q4 l l' hl hl'
    · rw [e0, h4, if_neg hc]; exact q5 l hl
theorem pv_Inv_mk {v w : pv_V} {a : Nat} (h : pv_Inv v) (hwf : ∀ m ∈ w.1, pv_wf m) (hrl : w.1.Pairwise pv_rl) (ha : pv_LI a w) (hN : ∀ t c l, l ≠ a → t ≠ 3 → t ≠ 4 → w.2.2 t c l = v.2.2 t c l) (hk : ∀ b, b ≠ a → ∀ j d, pv_cn j b d w.1 = pv_cn j b d v.1) (hco : ∀ c, c < 4 → pv_CO w c) : pv_Inv w := by
  refine ⟨hwf, hrl, fun b hb => ?_, hco⟩
  by_cases z : b = a
  · subst z; exact ha
  · exact pv_LI_same (h.2.2.1 b hb) (fun c => hN 0 c b z (by omega) (by omega)) (fun c => hN 1 c b z (by omega) (by omega)) (fun c => hN 2 c b z (by omega) (by omega)) (hN 5 0 b z (by omega) (by omega)) (hN 6 0 b z (by omega) (by omega)) (hN 7 0 b z (by omega) (by omega)) (hk b z)
end
section
-- ===== PART A: goes FIRST, ahead of the names: the tables' words, and 'selects' of the private methods out of them =====
/-- a private method of a class that the tables say can be made, by its rows of tables_1 -/
def lw_okq (q : MethodName × Nat) : Prop := (q.1.cls ≠ "java/lang/invoke/MethodHandle" ∧ q.1.cls ≠ "java/lang/invoke/VarHandle") ∧ Cond.instantiable q.1.cls q.2 ∈ tables_1 ∧ Cond.privateMethod q.1 ∈ tables_1 ∧ Cond.instanceMethod q.1 ∈ tables_1
theorem lw_p0 : lw_okq (⟨"SharerHome$Core", "isStill", "(I)Z"⟩, 10) := ⟨⟨by decide +kernel, by decide +kernel⟩, List.mem_of_getElem? (i := 61) (by decide +kernel), List.mem_of_getElem? (i := 129) (by decide +kernel), List.mem_of_getElem? (i := 130) (by decide +kernel)⟩
theorem lw_p1 : lw_okq (⟨"SharerHome$Core", "isEnough", "(I)Z"⟩, 10) := ⟨⟨by decide +kernel, by decide +kernel⟩, List.mem_of_getElem? (i := 61) (by decide +kernel), List.mem_of_getElem? (i := 133) (by decide +kernel), List.mem_of_getElem? (i := 134) (by decide +kernel)⟩
theorem lw_p2 : lw_okq (⟨"SharerHome$Core", "finish", "(I)V"⟩, 10) := ⟨⟨by decide +kernel, by decide +kernel⟩, List.mem_of_getElem? (i := 61) (by decide +kernel), List.mem_of_getElem? (i := 137) (by decide +kernel), List.mem_of_getElem? (i := 138) (by decide +kernel)⟩
theorem lw_p3 : lw_okq (⟨"SharerHome$Core", "change", "(II)V"⟩, 10) := ⟨⟨by decide +kernel, by decide +kernel⟩, List.mem_of_getElem? (i := 61) (by decide +kernel), List.mem_of_getElem? (i := 141) (by decide +kernel), List.mem_of_getElem? (i := 142) (by decide +kernel)⟩
theorem lw_p4 : lw_okq (⟨"SharerHome$Core", "request", "(I)V"⟩, 10) := ⟨⟨by decide +kernel, by decide +kernel⟩, List.mem_of_getElem? (i := 61) (by decide +kernel), List.mem_of_getElem? (i := 145) (by decide +kernel), List.mem_of_getElem? (i := 146) (by decide +kernel)⟩
theorem lw_p5 : lw_okq (⟨"SharerHome$Core", "sendLeave", "(IIII)V"⟩, 10) := ⟨⟨by decide +kernel, by decide +kernel⟩, List.mem_of_getElem? (i := 61) (by decide +kernel), List.mem_of_getElem? (i := 169) (by decide +kernel), List.mem_of_getElem? (i := 170) (by decide +kernel)⟩
theorem lw_p6 : lw_okq (⟨"SharerHome", "fateOf", "(I)I"⟩, 3) := ⟨⟨by decide +kernel, by decide +kernel⟩, List.mem_of_getElem? (i := 8) (by decide +kernel), List.mem_of_getElem? (i := 181) (by decide +kernel), List.mem_of_getElem? (i := 182) (by decide +kernel)⟩
theorem lw_p7 : lw_okq (⟨"SharerHome$Mail", "isOrdered", "(I)Z"⟩, 3) := ⟨⟨by decide +kernel, by decide +kernel⟩, List.mem_of_getElem? (i := 16) (by decide +kernel), List.mem_of_getElem? (i := 189) (by decide +kernel), List.mem_of_getElem? (i := 190) (by decide +kernel)⟩
theorem lw_p8 : lw_okq (⟨"SharerHome", "isStalled", "(I)Z"⟩, 3) := ⟨⟨by decide +kernel, by decide +kernel⟩, List.mem_of_getElem? (i := 8) (by decide +kernel), List.mem_of_getElem? (i := 193) (by decide +kernel), List.mem_of_getElem? (i := 194) (by decide +kernel)⟩
theorem lw_p9 : lw_okq (⟨"SharerHome", "handOver", "(I)V"⟩, 3) := ⟨⟨by decide +kernel, by decide +kernel⟩, List.mem_of_getElem? (i := 8) (by decide +kernel), List.mem_of_getElem? (i := 209) (by decide +kernel), List.mem_of_getElem? (i := 210) (by decide +kernel)⟩
theorem lw_p10 : lw_okq (⟨"SharerHome$Home", "takeRead", "(II)V"⟩, 5) := ⟨⟨by decide +kernel, by decide +kernel⟩, List.mem_of_getElem? (i := 37) (by decide +kernel), List.mem_of_getElem? (i := 218) (by decide +kernel), List.mem_of_getElem? (i := 219) (by decide +kernel)⟩
theorem lw_p11 : lw_okq (⟨"SharerHome$Home", "makeOwner", "(II)V"⟩, 5) := ⟨⟨by decide +kernel, by decide +kernel⟩, List.mem_of_getElem? (i := 37) (by decide +kernel), List.mem_of_getElem? (i := 223) (by decide +kernel), List.mem_of_getElem? (i := 224) (by decide +kernel)⟩
theorem lw_p12 : lw_okq (⟨"SharerHome$Home", "takeWrite", "(II)V"⟩, 5) := ⟨⟨by decide +kernel, by decide +kernel⟩, List.mem_of_getElem? (i := 37) (by decide +kernel), List.mem_of_getElem? (i := 230) (by decide +kernel), List.mem_of_getElem? (i := 231) (by decide +kernel)⟩
theorem lw_p13 : lw_okq (⟨"SharerHome$Home", "dropOthers", "(II)V"⟩, 5) := ⟨⟨by decide +kernel, by decide +kernel⟩, List.mem_of_getElem? (i := 37) (by decide +kernel), List.mem_of_getElem? (i := 234) (by decide +kernel), List.mem_of_getElem? (i := 235) (by decide +kernel)⟩
theorem lw_p14 : lw_okq (⟨"SharerHome$Home", "takeLeave", "(III)V"⟩, 5) := ⟨⟨by decide +kernel, by decide +kernel⟩, List.mem_of_getElem? (i := 37) (by decide +kernel), List.mem_of_getElem? (i := 244) (by decide +kernel), List.mem_of_getElem? (i := 245) (by decide +kernel)⟩
theorem lw_p15 : lw_okq (⟨"SharerHome$Home", "forgetSharer", "(II)V"⟩, 5) := ⟨⟨by decide +kernel, by decide +kernel⟩, List.mem_of_getElem? (i := 37) (by decide +kernel), List.mem_of_getElem? (i := 248) (by decide +kernel), List.mem_of_getElem? (i := 249) (by decide +kernel)⟩
def lw_privs_1 : List (MethodName × Nat) := [(⟨"SharerHome$Core", "isStill", "(I)Z"⟩, 10), (⟨"SharerHome$Core", "isEnough", "(I)Z"⟩, 10), (⟨"SharerHome$Core", "finish", "(I)V"⟩, 10), (⟨"SharerHome$Core", "change", "(II)V"⟩, 10), (⟨"SharerHome$Core", "request", "(I)V"⟩, 10), (⟨"SharerHome$Core", "sendLeave", "(IIII)V"⟩, 10), (⟨"SharerHome", "fateOf", "(I)I"⟩, 3), (⟨"SharerHome$Mail", "isOrdered", "(I)Z"⟩, 3), (⟨"SharerHome", "isStalled", "(I)Z"⟩, 3), (⟨"SharerHome", "handOver", "(I)V"⟩, 3), (⟨"SharerHome$Home", "takeRead", "(II)V"⟩, 5), (⟨"SharerHome$Home", "makeOwner", "(II)V"⟩, 5), (⟨"SharerHome$Home", "takeWrite", "(II)V"⟩, 5), (⟨"SharerHome$Home", "dropOthers", "(II)V"⟩, 5), (⟨"SharerHome$Home", "takeLeave", "(III)V"⟩, 5), (⟨"SharerHome$Home", "forgetSharer", "(II)V"⟩, 5)]
theorem lw_r1 : ∀ q ∈ lw_privs_1, lw_okq q := List.forall_mem_cons.mpr ⟨lw_p0, List.forall_mem_cons.mpr ⟨lw_p1, List.forall_mem_cons.mpr ⟨lw_p2, List.forall_mem_cons.mpr ⟨lw_p3, List.forall_mem_cons.mpr ⟨lw_p4, List.forall_mem_cons.mpr ⟨lw_p5, List.forall_mem_cons.mpr ⟨lw_p6, List.forall_mem_cons.mpr ⟨lw_p7, List.forall_mem_cons.mpr ⟨lw_p8, List.forall_mem_cons.mpr ⟨lw_p9, List.forall_mem_cons.mpr ⟨lw_p10, List.forall_mem_cons.mpr ⟨lw_p11, List.forall_mem_cons.mpr ⟨lw_p12, List.forall_mem_cons.mpr ⟨lw_p13, List.forall_mem_cons.mpr ⟨lw_p14, List.forall_mem_cons.mpr ⟨lw_p15, fun _ h => absurd h List.not_mem_nil⟩⟩⟩⟩⟩⟩⟩⟩⟩⟩⟩⟩⟩⟩⟩⟩
theorem lw_p16 : lw_okq (⟨"SharerHome$Core", "shareWith", "(II)V"⟩, 10) := ⟨⟨by decide +kernel, by decide +kernel⟩, List.mem_of_getElem? (i := 61) (by decide +kernel), List.mem_of_getElem? (i := 257) (by decide +kernel), List.mem_of_getElem? (i := 258) (by decide +kernel)⟩
theorem lw_p17 : lw_okq (⟨"SharerHome$Core", "isLeavingAlone", "(I)Z"⟩, 10) := ⟨⟨by decide +kernel, by decide +kernel⟩, List.mem_of_getElem? (i := 61) (by decide +kernel), List.mem_of_getElem? (i := 261) (by decide +kernel), List.mem_of_getElem? (i := 262) (by decide +kernel)⟩
theorem lw_p18 : lw_okq (⟨"SharerHome$Core", "yieldTo", "(II)V"⟩, 10) := ⟨⟨by decide +kernel, by decide +kernel⟩, List.mem_of_getElem? (i := 61) (by decide +kernel), List.mem_of_getElem? (i := 265) (by decide +kernel), List.mem_of_getElem? (i := 266) (by decide +kernel)⟩
theorem lw_p19 : lw_okq (⟨"SharerHome$Core", "dropFor", "(II)V"⟩, 10) := ⟨⟨by decide +kernel, by decide +kernel⟩, List.mem_of_getElem? (i := 61) (by decide +kernel), List.mem_of_getElem? (i := 269) (by decide +kernel), List.mem_of_getElem? (i := 270) (by decide +kernel)⟩
theorem lw_p20 : lw_okq (⟨"SharerHome$Core", "takeData", "(III)V"⟩, 10) := ⟨⟨by decide +kernel, by decide +kernel⟩, List.mem_of_getElem? (i := 61) (by decide +kernel), List.mem_of_getElem? (i := 273) (by decide +kernel), List.mem_of_getElem? (i := 274) (by decide +kernel)⟩
theorem lw_p21 : lw_okq (⟨"SharerHome$Core", "ownIfNothingOwed", "(I)V"⟩, 10) := ⟨⟨by decide +kernel, by decide +kernel⟩, List.mem_of_getElem? (i := 61) (by decide +kernel), List.mem_of_getElem? (i := 277) (by decide +kernel), List.mem_of_getElem? (i := 278) (by decide +kernel)⟩
theorem lw_p22 : lw_okq (⟨"SharerHome$Core", "takeDropped", "(I)V"⟩, 10) := ⟨⟨by decide +kernel, by decide +kernel⟩, List.mem_of_getElem? (i := 61) (by decide +kernel), List.mem_of_getElem? (i := 281) (by decide +kernel), List.mem_of_getElem? (i := 282) (by decide +kernel)⟩
theorem lw_p23 : lw_okq (⟨"SharerHome", "oldestToTake", "()I"⟩, 3) := ⟨⟨by decide +kernel, by decide +kernel⟩, List.mem_of_getElem? (i := 8) (by decide +kernel), List.mem_of_getElem? (i := 349) (by decide +kernel), List.mem_of_getElem? (i := 350) (by decide +kernel)⟩
theorem lw_p24 : lw_okq (⟨"SharerHomeModel", "start", "(IIII)I"⟩, 23) := ⟨⟨by decide +kernel, by decide +kernel⟩, List.mem_of_getElem? (i := 353) (by decide +kernel), List.mem_of_getElem? (i := 434) (by decide +kernel), List.mem_of_getElem? (i := 435) (by decide +kernel)⟩
theorem lw_p25 : lw_okq (⟨"SharerHomeModel", "finish", "(II)V"⟩, 23) := ⟨⟨by decide +kernel, by decide +kernel⟩, List.mem_of_getElem? (i := 353) (by decide +kernel), List.mem_of_getElem? (i := 441) (by decide +kernel), List.mem_of_getElem? (i := 442) (by decide +kernel)⟩
theorem lw_p26 : lw_okq (⟨"SharerHomeModel", "send", "(IIIIII)V"⟩, 23) := ⟨⟨by decide +kernel, by decide +kernel⟩, List.mem_of_getElem? (i := 353) (by decide +kernel), List.mem_of_getElem? (i := 445) (by decide +kernel), List.mem_of_getElem? (i := 446) (by decide +kernel)⟩
theorem lw_p27 : lw_okq (⟨"SharerHomeModel", "sendWith", "(IIIIIII)V"⟩, 23) := ⟨⟨by decide +kernel, by decide +kernel⟩, List.mem_of_getElem? (i := 353) (by decide +kernel), List.mem_of_getElem? (i := 449) (by decide +kernel), List.mem_of_getElem? (i := 450) (by decide +kernel)⟩
theorem lw_p28 : lw_okq (⟨"SharerHomeModel", "move", "(I)I"⟩, 23) := ⟨⟨by decide +kernel, by decide +kernel⟩, List.mem_of_getElem? (i := 353) (by decide +kernel), List.mem_of_getElem? (i := 469) (by decide +kernel), List.mem_of_getElem? (i := 470) (by decide +kernel)⟩
theorem lw_p29 : lw_okq (⟨"SharerHomeModel", "keptBack", "(I)Z"⟩, 23) := ⟨⟨by decide +kernel, by decide +kernel⟩, List.mem_of_getElem? (i := 353) (by decide +kernel), List.mem_of_getElem? (i := 473) (by decide +kernel), List.mem_of_getElem? (i := 474) (by decide +kernel)⟩
theorem lw_p30 : lw_okq (⟨"SharerHomeModel", "stalls", "(I)Z"⟩, 23) := ⟨⟨by decide +kernel, by decide +kernel⟩, List.mem_of_getElem? (i := 353) (by decide +kernel), List.mem_of_getElem? (i := 480) (by decide +kernel), List.mem_of_getElem? (i := 481) (by decide +kernel)⟩
theorem lw_p31 : lw_okq (⟨"SharerHomeModel", "strike", "(I)V"⟩, 23) := ⟨⟨by decide +kernel, by decide +kernel⟩, List.mem_of_getElem? (i := 353) (by decide +kernel), List.mem_of_getElem? (i := 494) (by decide +kernel), List.mem_of_getElem? (i := 495) (by decide +kernel)⟩
def lw_privs_2 : List (MethodName × Nat) := [(⟨"SharerHome$Core", "shareWith", "(II)V"⟩, 10), (⟨"SharerHome$Core", "isLeavingAlone", "(I)Z"⟩, 10), (⟨"SharerHome$Core", "yieldTo", "(II)V"⟩, 10), (⟨"SharerHome$Core", "dropFor", "(II)V"⟩, 10), (⟨"SharerHome$Core", "takeData", "(III)V"⟩, 10), (⟨"SharerHome$Core", "ownIfNothingOwed", "(I)V"⟩, 10), (⟨"SharerHome$Core", "takeDropped", "(I)V"⟩, 10), (⟨"SharerHome", "oldestToTake", "()I"⟩, 3), (⟨"SharerHomeModel", "start", "(IIII)I"⟩, 23), (⟨"SharerHomeModel", "finish", "(II)V"⟩, 23), (⟨"SharerHomeModel", "send", "(IIIIII)V"⟩, 23), (⟨"SharerHomeModel", "sendWith", "(IIIIIII)V"⟩, 23), (⟨"SharerHomeModel", "move", "(I)I"⟩, 23), (⟨"SharerHomeModel", "keptBack", "(I)Z"⟩, 23), (⟨"SharerHomeModel", "stalls", "(I)Z"⟩, 23), (⟨"SharerHomeModel", "strike", "(I)V"⟩, 23)]
theorem lw_r2 : ∀ q ∈ lw_privs_2, lw_okq q := List.forall_mem_cons.mpr ⟨lw_p16, List.forall_mem_cons.mpr ⟨lw_p17, List.forall_mem_cons.mpr ⟨lw_p18, List.forall_mem_cons.mpr ⟨lw_p19, List.forall_mem_cons.mpr ⟨lw_p20, List.forall_mem_cons.mpr ⟨lw_p21, List.forall_mem_cons.mpr ⟨lw_p22, List.forall_mem_cons.mpr ⟨lw_p23, List.forall_mem_cons.mpr ⟨lw_p24, List.forall_mem_cons.mpr ⟨lw_p25, List.forall_mem_cons.mpr ⟨lw_p26, List.forall_mem_cons.mpr ⟨lw_p27, List.forall_mem_cons.mpr ⟨lw_p28, List.forall_mem_cons.mpr ⟨lw_p29, List.forall_mem_cons.mpr ⟨lw_p30, List.forall_mem_cons.mpr ⟨lw_p31, fun _ h => absurd h List.not_mem_nil⟩⟩⟩⟩⟩⟩⟩⟩⟩⟩⟩⟩⟩⟩⟩⟩
theorem lw_p32 : lw_okq (⟨"SharerHomeModel", "toCore", "(IIIIII)V"⟩, 23) := ⟨⟨by decide +kernel, by decide +kernel⟩, List.mem_of_getElem? (i := 353) (by decide +kernel), List.mem_of_getElem? (i := 498) (by decide +kernel), List.mem_of_getElem? (i := 499) (by decide +kernel)⟩
theorem lw_p33 : lw_okq (⟨"SharerHomeModel", "acknowledged", "(II)V"⟩, 23) := ⟨⟨by decide +kernel, by decide +kernel⟩, List.mem_of_getElem? (i := 353) (by decide +kernel), List.mem_of_getElem? (i := 502) (by decide +kernel), List.mem_of_getElem? (i := 503) (by decide +kernel)⟩
theorem lw_p34 : lw_okq (⟨"SharerHomeModel", "toRead", "(II)V"⟩, 23) := ⟨⟨by decide +kernel, by decide +kernel⟩, List.mem_of_getElem? (i := 353) (by decide +kernel), List.mem_of_getElem? (i := 506) (by decide +kernel), List.mem_of_getElem? (i := 507) (by decide +kernel)⟩
theorem lw_p35 : lw_okq (⟨"SharerHomeModel", "toWrite", "(II)V"⟩, 23) := ⟨⟨by decide +kernel, by decide +kernel⟩, List.mem_of_getElem? (i := 353) (by decide +kernel), List.mem_of_getElem? (i := 510) (by decide +kernel), List.mem_of_getElem? (i := 511) (by decide +kernel)⟩
theorem lw_p36 : lw_okq (⟨"SharerHomeModel", "toLeave", "(IIII)V"⟩, 23) := ⟨⟨by decide +kernel, by decide +kernel⟩, List.mem_of_getElem? (i := 353) (by decide +kernel), List.mem_of_getElem? (i := 514) (by decide +kernel), List.mem_of_getElem? (i := 515) (by decide +kernel)⟩
def lw_privs_3 : List (MethodName × Nat) := [(⟨"SharerHomeModel", "toCore", "(IIIIII)V"⟩, 23), (⟨"SharerHomeModel", "acknowledged", "(II)V"⟩, 23), (⟨"SharerHomeModel", "toRead", "(II)V"⟩, 23), (⟨"SharerHomeModel", "toWrite", "(II)V"⟩, 23), (⟨"SharerHomeModel", "toLeave", "(IIII)V"⟩, 23)]
theorem lw_r3 : ∀ q ∈ lw_privs_3, lw_okq q := List.forall_mem_cons.mpr ⟨lw_p32, List.forall_mem_cons.mpr ⟨lw_p33, List.forall_mem_cons.mpr ⟨lw_p34, List.forall_mem_cons.mpr ⟨lw_p35, List.forall_mem_cons.mpr ⟨lw_p36, fun _ h => absurd h List.not_mem_nil⟩⟩⟩⟩⟩
def lw_privs : List (MethodName × Nat) := lw_privs_1 ++ (lw_privs_2 ++ (lw_privs_3))
def lw_tbl : List Cond := k2_sels lw_privs ++ tables_1
theorem lw_privs_ok : ∀ q ∈ lw_privs, lw_okq q := by
  show ∀ q ∈ lw_privs_1 ++ (lw_privs_2 ++ (lw_privs_3)), lw_okq q
  exact List.forall_mem_append.mpr ⟨lw_r1, List.forall_mem_append.mpr ⟨lw_r2, lw_r3⟩⟩
end
section
def R_S : String := "SharerHome"
def R_A : String := "SharerHome$Mail"
def R_C : String := "SharerHome$Core"
def R_H : String := "SharerHome$Home"
def R_M : String := "SharerHomeModel"
def R_J : String := "java/lang/Integer"
def F_S : u_T := fun k => match k with
  | 0 => ("SharerHome", "mail", "LSharerHome$Mail;", true)
  | 1 => ("SharerHome", "cores", "[LSharerHome$Core;", true)
  | _ => ("SharerHome", "home", "LSharerHome$Home;", true)
def t_S : Nat → FieldType := fun k => match k with
  | 0 => .object "SharerHome$Mail"
  | 1 => .array (.object "SharerHome$Core")
  | _ => .object "SharerHome$Home"
theorem n_S : ∀ a, a < 3 → ∀ b, b < 3 → a ≠ b → (F_S a).2.1 ≠ (F_S b).2.1 := by decide +kernel
theorem to_S : ∀ k, k < 3 → parseFieldDescriptor (F_S k).2.2.1 = some (t_S k) := by decide +kernel
def F_A : u_T := fun k => match k with
  | 0 => ("SharerHome$Mail", "parts", "[[I", true)
  | 1 => ("SharerHome$Mail", "tallies", "[[I", true)
  | _ => ("SharerHome$Mail", "count", "I", false)
def t_A : Nat → FieldType := fun k => match k with
  | 0 => .array (.array .int)
  | 1 => .array (.array .int)
  | _ => .int
theorem n_A : ∀ a, a < 3 → ∀ b, b < 3 → a ≠ b → (F_A a).2.1 ≠ (F_A b).2.1 := by decide +kernel
theorem to_A : ∀ k, k < 3 → parseFieldDescriptor (F_A k).2.2.1 = some (t_A k) := by decide +kernel
def F_C : u_T := fun k => match k with
  | 0 => ("SharerHome$Core", "self", "I", true)
  | 1 => ("SharerHome$Core", "mail", "LSharerHome$Mail;", true)
  | 2 => ("SharerHome$Core", "states", "[I", true)
  | 3 => ("SharerHome$Core", "values", "[I", true)
  | 4 => ("SharerHome$Core", "owed", "[I", true)
  | 5 => ("SharerHome$Core", "waiting", "Z", false)
  | 6 => ("SharerHome$Core", "operation", "I", false)
  | 7 => ("SharerHome$Core", "operand", "I", false)
  | 8 => ("SharerHome$Core", "finished", "I", false)
  | _ => ("SharerHome$Core", "latestResult", "I", false)
def t_C : Nat → FieldType := fun k => match k with
  | 0 => .int
  | 1 => .object "SharerHome$Mail"
  | 2 => .array .int
  | 3 => .array .int
  | 4 => .array .int
  | 5 => .boolean
  | 6 => .int
  | 7 => .int
  | 8 => .int
  | _ => .int
theorem n_C : ∀ a, a < 10 → ∀ b, b < 10 → a ≠ b → (F_C a).2.1 ≠ (F_C b).2.1 := by decide +kernel
theorem to_C : ∀ k, k < 10 → parseFieldDescriptor (F_C k).2.2.1 = some (t_C k) := by decide +kernel
def F_H : u_T := fun k => match k with
  | 0 => ("SharerHome$Home", "mail", "LSharerHome$Mail;", true)
  | 1 => ("SharerHome$Home", "memories", "[I", true)
  | 2 => ("SharerHome$Home", "keepings", "[I", true)
  | 3 => ("SharerHome$Home", "owners", "[I", true)
  | _ => ("SharerHome$Home", "sharers", "[I", true)
def t_H : Nat → FieldType := fun k => match k with
  | 0 => .object "SharerHome$Mail"
  | 1 => .array .int
  | 2 => .array .int
  | 3 => .array .int
  | _ => .array .int
theorem n_H : ∀ a, a < 5 → ∀ b, b < 5 → a ≠ b → (F_H a).2.1 ≠ (F_H b).2.1 := by decide +kernel
theorem to_H : ∀ k, k < 5 → parseFieldDescriptor (F_H k).2.2.1 = some (t_H k) := by decide +kernel
def F_M : u_T := fun k => match k with
  | 0 => ("SharerHomeModel", "copy", "[I", true)
  | 1 => ("SharerHomeModel", "content", "[I", true)
  | 2 => ("SharerHomeModel", "needed", "[I", true)
  | 3 => ("SharerHomeModel", "got", "[I", true)
  | 4 => ("SharerHomeModel", "sentSince", "[I", true)
  | 5 => ("SharerHomeModel", "waiting", "[Z", true)
  | 6 => ("SharerHomeModel", "forLine", "[I", true)
  | 7 => ("SharerHomeModel", "operation", "[I", true)
  | 8 => ("SharerHomeModel", "operand", "[I", true)
  | 9 => ("SharerHomeModel", "finished", "[I", true)
  | 10 => ("SharerHomeModel", "latest", "[I", true)
  | 11 => ("SharerHomeModel", "keeping", "[I", true)
  | 12 => ("SharerHomeModel", "owner", "[I", true)
  | 13 => ("SharerHomeModel", "sharers", "[I", true)
  | 14 => ("SharerHomeModel", "cells", "[I", true)
  | 15 => ("SharerHomeModel", "rows", "I", false)
  | 16 => ("SharerHomeModel", "kind", "[I", true)
  | 17 => ("SharerHomeModel", "about", "[I", true)
  | 18 => ("SharerHomeModel", "sender", "[I", true)
  | 19 => ("SharerHomeModel", "receiver", "[I", true)
  | 20 => ("SharerHomeModel", "requester", "[I", true)
  | 21 => ("SharerHomeModel", "number", "[I", true)
  | _ => ("SharerHomeModel", "burden", "[I", true)
def t_M : Nat → FieldType := fun k => match k with
  | 0 => .array .int
  | 1 => .array .int
  | 2 => .array .int
  | 3 => .array .int
  | 4 => .array .int
  | 5 => .array .boolean
  | 6 => .array .int
  | 7 => .array .int
  | 8 => .array .int
  | 9 => .array .int
  | 10 => .array .int
  | 11 => .array .int
  | 12 => .array .int
  | 13 => .array .int
  | 14 => .array .int
  | 15 => .int
  | 16 => .array .int
  | 17 => .array .int
  | 18 => .array .int
  | 19 => .array .int
  | 20 => .array .int
  | 21 => .array .int
  | _ => .array .int
theorem n_M : ∀ a, a < 23 → ∀ b, b < 23 → a ≠ b → (F_M a).2.1 ≠ (F_M b).2.1 := by decide +kernel
theorem to_M : ∀ k, k < 23 → parseFieldDescriptor (F_M k).2.2.1 = some (t_M k) := by decide +kernel
abbrev c_S_init : ByteArray := prog_1_method_1_code
def y_S_init : MethodName := ⟨"SharerHome", "<init>", "()V"⟩
abbrev c_S_load : ByteArray := prog_1_method_2_code
def y_S_load : MethodName := ⟨"SharerHome", "load", "(II)I"⟩
abbrev c_S_store : ByteArray := prog_1_method_3_code
def y_S_store : MethodName := ⟨"SharerHome", "store", "(III)I"⟩
abbrev c_S_add : ByteArray := prog_1_method_4_code
def y_S_add : MethodName := ⟨"SharerHome", "add", "(III)I"⟩
abbrev c_S_leave : ByteArray := prog_1_method_5_code
def y_S_leave : MethodName := ⟨"SharerHome", "leave", "(II)I"⟩
abbrev c_S_deliver : ByteArray := prog_1_method_6_code
def y_S_deliver : MethodName := ⟨"SharerHome", "deliver", "(I)I"⟩
abbrev c_S_message : ByteArray := prog_1_method_7_code
def y_S_message : MethodName := ⟨"SharerHome", "message", "(II)I"⟩
abbrev c_S_carried : ByteArray := prog_1_method_8_code
def y_S_carried : MethodName := ⟨"SharerHome", "carried", "(I)I"⟩
abbrev c_S_state : ByteArray := prog_1_method_9_code
def y_S_state : MethodName := ⟨"SharerHome", "state", "(II)I"⟩
abbrev c_S_value : ByteArray := prog_1_method_10_code
def y_S_value : MethodName := ⟨"SharerHome", "value", "(II)I"⟩
abbrev c_S_due : ByteArray := prog_1_method_11_code
def y_S_due : MethodName := ⟨"SharerHome", "due", "(II)I"⟩
abbrev c_S_home : ByteArray := prog_1_method_12_code
def y_S_home : MethodName := ⟨"SharerHome", "home", "(I)I"⟩
abbrev c_S_memory : ByteArray := prog_1_method_13_code
def y_S_memory : MethodName := ⟨"SharerHome", "memory", "(I)I"⟩
abbrev c_S_waits : ByteArray := prog_1_method_14_code
def y_S_waits : MethodName := ⟨"SharerHome", "waits", "(I)Z"⟩
abbrev c_S_done : ByteArray := prog_1_method_15_code
def y_S_done : MethodName := ⟨"SharerHome", "done", "(I)I"⟩
abbrev c_S_result : ByteArray := prog_1_method_16_code
def y_S_result : MethodName := ⟨"SharerHome", "result", "(I)I"⟩
abbrev c_S_tally : ByteArray := prog_1_method_17_code
def y_S_tally : MethodName := ⟨"SharerHome", "tally", "(II)I"⟩
abbrev c_S_run : ByteArray := prog_1_method_18_code
def y_S_run : MethodName := ⟨"SharerHome", "run", "(I)I"⟩
abbrev c_S_isCore : ByteArray := prog_1_method_19_code
def y_S_isCore : MethodName := ⟨"SharerHome", "isCore", "(I)Z"⟩
abbrev c_S_isLine : ByteArray := prog_1_method_20_code
def y_S_isLine : MethodName := ⟨"SharerHome", "isLine", "(I)Z"⟩
abbrev c_S_isCopy : ByteArray := prog_1_method_21_code
def y_S_isCopy : MethodName := ⟨"SharerHome", "isCopy", "(II)Z"⟩
abbrev c_S_oldestToTake : ByteArray := prog_1_method_22_code
def y_S_oldestToTake : MethodName := ⟨"SharerHome", "oldestToTake", "()I"⟩
abbrev c_S_fateOf : ByteArray := prog_1_method_23_code
def y_S_fateOf : MethodName := ⟨"SharerHome", "fateOf", "(I)I"⟩
abbrev c_S_isStalled : ByteArray := prog_1_method_24_code
def y_S_isStalled : MethodName := ⟨"SharerHome", "isStalled", "(I)Z"⟩
abbrev c_S_handOver : ByteArray := prog_1_method_25_code
def y_S_handOver : MethodName := ⟨"SharerHome", "handOver", "(I)V"⟩
abbrev c_M_init : ByteArray := prog_6_method_1_code
def y_M_init : MethodName := ⟨"SharerHomeModel", "<init>", "()V"⟩
abbrev c_M_isFour : ByteArray := prog_6_method_2_code
def y_M_isFour : MethodName := ⟨"SharerHomeModel", "isFour", "(I)Z"⟩
abbrev c_M_send : ByteArray := prog_6_method_3_code
def y_M_send : MethodName := ⟨"SharerHomeModel", "send", "(IIIIII)V"⟩
abbrev c_M_sendWith : ByteArray := prog_6_method_4_code
def y_M_sendWith : MethodName := ⟨"SharerHomeModel", "sendWith", "(IIIIIII)V"⟩
abbrev c_M_strike : ByteArray := prog_6_method_5_code
def y_M_strike : MethodName := ⟨"SharerHomeModel", "strike", "(I)V"⟩
abbrev c_M_isOrdered : ByteArray := prog_6_method_6_code
def y_M_isOrdered : MethodName := ⟨"SharerHomeModel", "isOrdered", "(I)Z"⟩
abbrev c_M_keptBack : ByteArray := prog_6_method_7_code
def y_M_keptBack : MethodName := ⟨"SharerHomeModel", "keptBack", "(I)Z"⟩
abbrev c_M_digit : ByteArray := prog_6_method_8_code
def y_M_digit : MethodName := ⟨"SharerHomeModel", "digit", "(JI)I"⟩
abbrev c_M_becomes : ByteArray := prog_6_method_9_code
def y_M_becomes : MethodName := ⟨"SharerHomeModel", "becomes", "(II)I"⟩
abbrev c_M_stalls : ByteArray := prog_6_method_10_code
def y_M_stalls : MethodName := ⟨"SharerHomeModel", "stalls", "(I)Z"⟩
abbrev c_M_move : ByteArray := prog_6_method_11_code
def y_M_move : MethodName := ⟨"SharerHomeModel", "move", "(I)I"⟩
abbrev c_M_toRead : ByteArray := prog_6_method_12_code
def y_M_toRead : MethodName := ⟨"SharerHomeModel", "toRead", "(II)V"⟩
abbrev c_M_toWrite : ByteArray := prog_6_method_13_code
def y_M_toWrite : MethodName := ⟨"SharerHomeModel", "toWrite", "(II)V"⟩
abbrev c_M_toLeave : ByteArray := prog_6_method_14_code
def y_M_toLeave : MethodName := ⟨"SharerHomeModel", "toLeave", "(IIII)V"⟩
abbrev c_M_toCore : ByteArray := prog_6_method_15_code
def y_M_toCore : MethodName := ⟨"SharerHomeModel", "toCore", "(IIIIII)V"⟩
abbrev c_M_acknowledged : ByteArray := prog_6_method_16_code
def y_M_acknowledged : MethodName := ⟨"SharerHomeModel", "acknowledged", "(II)V"⟩
abbrev c_M_finish : ByteArray := prog_6_method_17_code
def y_M_finish : MethodName := ⟨"SharerHomeModel", "finish", "(II)V"⟩
abbrev c_M_start : ByteArray := prog_6_method_18_code
def y_M_start : MethodName := ⟨"SharerHomeModel", "start", "(IIII)I"⟩
abbrev c_M_load : ByteArray := prog_6_method_19_code
def y_M_load : MethodName := ⟨"SharerHomeModel", "load", "(II)I"⟩
abbrev c_M_store : ByteArray := prog_6_method_20_code
def y_M_store : MethodName := ⟨"SharerHomeModel", "store", "(III)I"⟩
abbrev c_M_add : ByteArray := prog_6_method_21_code
def y_M_add : MethodName := ⟨"SharerHomeModel", "add", "(III)I"⟩
abbrev c_M_leave : ByteArray := prog_6_method_22_code
def y_M_leave : MethodName := ⟨"SharerHomeModel", "leave", "(II)I"⟩
abbrev c_M_deliver : ByteArray := prog_6_method_23_code
def y_M_deliver : MethodName := ⟨"SharerHomeModel", "deliver", "(I)I"⟩
abbrev c_M_message : ByteArray := prog_6_method_24_code
def y_M_message : MethodName := ⟨"SharerHomeModel", "message", "(II)I"⟩
abbrev c_M_carried : ByteArray := prog_6_method_25_code
def y_M_carried : MethodName := ⟨"SharerHomeModel", "carried", "(I)I"⟩
abbrev c_M_state : ByteArray := prog_6_method_26_code
def y_M_state : MethodName := ⟨"SharerHomeModel", "state", "(II)I"⟩
abbrev c_M_value : ByteArray := prog_6_method_27_code
def y_M_value : MethodName := ⟨"SharerHomeModel", "value", "(II)I"⟩
abbrev c_M_due : ByteArray := prog_6_method_28_code
def y_M_due : MethodName := ⟨"SharerHomeModel", "due", "(II)I"⟩
abbrev c_M_home : ByteArray := prog_6_method_29_code
def y_M_home : MethodName := ⟨"SharerHomeModel", "home", "(I)I"⟩
abbrev c_M_memory : ByteArray := prog_6_method_30_code
def y_M_memory : MethodName := ⟨"SharerHomeModel", "memory", "(I)I"⟩
abbrev c_M_waits : ByteArray := prog_6_method_31_code
def y_M_waits : MethodName := ⟨"SharerHomeModel", "waits", "(I)Z"⟩
abbrev c_M_done : ByteArray := prog_6_method_32_code
def y_M_done : MethodName := ⟨"SharerHomeModel", "done", "(I)I"⟩
abbrev c_M_result : ByteArray := prog_6_method_33_code
def y_M_result : MethodName := ⟨"SharerHomeModel", "result", "(I)I"⟩
abbrev c_M_tally : ByteArray := prog_6_method_34_code
def y_M_tally : MethodName := ⟨"SharerHomeModel", "tally", "(II)I"⟩
abbrev c_M_run : ByteArray := prog_6_method_35_code
def y_M_run : MethodName := ⟨"SharerHomeModel", "run", "(I)I"⟩
abbrev c_C_init : ByteArray := prog_2_method_1_code
def y_C_init : MethodName := ⟨"SharerHome$Core", "<init>", "(ILSharerHome$Mail;)V"⟩
abbrev c_C_start : ByteArray := prog_2_method_2_code
def y_C_start : MethodName := ⟨"SharerHome$Core", "start", "(III)I"⟩
abbrev c_C_giveUp : ByteArray := prog_2_method_3_code
def y_C_giveUp : MethodName := ⟨"SharerHome$Core", "giveUp", "(I)I"⟩
abbrev c_C_stalls : ByteArray := prog_2_method_4_code
def y_C_stalls : MethodName := ⟨"SharerHome$Core", "stalls", "(II)Z"⟩
abbrev c_C_take : ByteArray := prog_2_method_5_code
def y_C_take : MethodName := ⟨"SharerHome$Core", "take", "(I)V"⟩
abbrev c_C_shownValue : ByteArray := prog_2_method_6_code
def y_C_shownValue : MethodName := ⟨"SharerHome$Core", "shownValue", "(I)I"⟩
abbrev c_C_shownOwed : ByteArray := prog_2_method_7_code
def y_C_shownOwed : MethodName := ⟨"SharerHome$Core", "shownOwed", "(I)I"⟩
abbrev c_C_isStill : ByteArray := prog_2_method_8_code
def y_C_isStill : MethodName := ⟨"SharerHome$Core", "isStill", "(I)Z"⟩
abbrev c_C_isEnough : ByteArray := prog_2_method_9_code
def y_C_isEnough : MethodName := ⟨"SharerHome$Core", "isEnough", "(I)Z"⟩
abbrev c_C_request : ByteArray := prog_2_method_10_code
def y_C_request : MethodName := ⟨"SharerHome$Core", "request", "(I)V"⟩
abbrev c_C_sendLeave : ByteArray := prog_2_method_11_code
def y_C_sendLeave : MethodName := ⟨"SharerHome$Core", "sendLeave", "(IIII)V"⟩
abbrev c_C_shareWith : ByteArray := prog_2_method_12_code
def y_C_shareWith : MethodName := ⟨"SharerHome$Core", "shareWith", "(II)V"⟩
abbrev c_C_yieldTo : ByteArray := prog_2_method_13_code
def y_C_yieldTo : MethodName := ⟨"SharerHome$Core", "yieldTo", "(II)V"⟩
abbrev c_C_isLeavingAlone : ByteArray := prog_2_method_14_code
def y_C_isLeavingAlone : MethodName := ⟨"SharerHome$Core", "isLeavingAlone", "(I)Z"⟩
abbrev c_C_dropFor : ByteArray := prog_2_method_15_code
def y_C_dropFor : MethodName := ⟨"SharerHome$Core", "dropFor", "(II)V"⟩
abbrev c_C_takeData : ByteArray := prog_2_method_16_code
def y_C_takeData : MethodName := ⟨"SharerHome$Core", "takeData", "(III)V"⟩
abbrev c_C_takeDropped : ByteArray := prog_2_method_17_code
def y_C_takeDropped : MethodName := ⟨"SharerHome$Core", "takeDropped", "(I)V"⟩
abbrev c_C_ownIfNothingOwed : ByteArray := prog_2_method_18_code
def y_C_ownIfNothingOwed : MethodName := ⟨"SharerHome$Core", "ownIfNothingOwed", "(I)V"⟩
abbrev c_C_finish : ByteArray := prog_2_method_19_code
def y_C_finish : MethodName := ⟨"SharerHome$Core", "finish", "(I)V"⟩
abbrev c_C_change : ByteArray := prog_2_method_20_code
def y_C_change : MethodName := ⟨"SharerHome$Core", "change", "(II)V"⟩
abbrev c_H_init : ByteArray := prog_3_method_1_code
def y_H_init : MethodName := ⟨"SharerHome$Home", "<init>", "(LSharerHome$Mail;)V"⟩
abbrev c_H_summary : ByteArray := prog_3_method_2_code
def y_H_summary : MethodName := ⟨"SharerHome$Home", "summary", "(I)I"⟩
abbrev c_H_stalls : ByteArray := prog_3_method_3_code
def y_H_stalls : MethodName := ⟨"SharerHome$Home", "stalls", "(II)Z"⟩
abbrev c_H_take : ByteArray := prog_3_method_4_code
def y_H_take : MethodName := ⟨"SharerHome$Home", "take", "(I)V"⟩
abbrev c_H_takeRead : ByteArray := prog_3_method_5_code
def y_H_takeRead : MethodName := ⟨"SharerHome$Home", "takeRead", "(II)V"⟩
abbrev c_H_takeWrite : ByteArray := prog_3_method_6_code
def y_H_takeWrite : MethodName := ⟨"SharerHome$Home", "takeWrite", "(II)V"⟩
abbrev c_H_dropOthers : ByteArray := prog_3_method_7_code
def y_H_dropOthers : MethodName := ⟨"SharerHome$Home", "dropOthers", "(II)V"⟩
abbrev c_H_takeLeave : ByteArray := prog_3_method_8_code
def y_H_takeLeave : MethodName := ⟨"SharerHome$Home", "takeLeave", "(III)V"⟩
abbrev c_H_forgetSharer : ByteArray := prog_3_method_9_code
def y_H_forgetSharer : MethodName := ⟨"SharerHome$Home", "forgetSharer", "(II)V"⟩
abbrev c_H_makeOwner : ByteArray := prog_3_method_10_code
def y_H_makeOwner : MethodName := ⟨"SharerHome$Home", "makeOwner", "(II)V"⟩
abbrev c_H_bit : ByteArray := prog_3_method_11_code
def y_H_bit : MethodName := ⟨"SharerHome$Home", "bit", "(I)I"⟩
abbrev c_A_init : ByteArray := prog_4_method_1_code
def y_A_init : MethodName := ⟨"SharerHome$Mail", "<init>", "()V"⟩
abbrev c_A_has : ByteArray := prog_4_method_2_code
def y_A_has : MethodName := ⟨"SharerHome$Mail", "has", "(I)Z"⟩
abbrev c_A_part : ByteArray := prog_4_method_3_code
def y_A_part : MethodName := ⟨"SharerHome$Mail", "part", "(II)I"⟩
abbrev c_A_send : ByteArray := prog_4_method_4_code
def y_A_send : MethodName := ⟨"SharerHome$Mail", "send", "(IIIIIII)V"⟩
abbrev c_A_remove : ByteArray := prog_4_method_5_code
def y_A_remove : MethodName := ⟨"SharerHome$Mail", "remove", "(I)V"⟩
abbrev c_A_keepsBack : ByteArray := prog_4_method_6_code
def y_A_keepsBack : MethodName := ⟨"SharerHome$Mail", "keepsBack", "(I)Z"⟩
abbrev c_A_isOrdered : ByteArray := prog_4_method_7_code
def y_A_isOrdered : MethodName := ⟨"SharerHome$Mail", "isOrdered", "(I)Z"⟩
abbrev c_J_bitCount : ByteArray := prog_7_method_49_code
def y_J_bitCount : MethodName := ⟨"java/lang/Integer", "bitCount", "(I)I"⟩
/-- all words that hold on and on -/
def zB : List Cond := lw_tbl.filter goodWord
theorem zB_mem {w : Cond} (h : w ∈ lw_tbl) (hg : goodWord w = true) : w ∈ zB := List.mem_filter.mpr ⟨h, hg⟩
theorem zB_tbl {w : Cond} (h : w ∈ zB) : w ∈ lw_tbl := (List.mem_filter.mp h).1
theorem zB_good {w : Cond} (h : w ∈ zB) : (w.onTables && w.keeps) = true ∨ ∃ ty, w = .arrayClass ty := good_of_word (List.mem_filter.mp h).2
theorem u_S_0 : ∀ w ∈ u_ws R_S F_S 3, w ∈ lw_tbl ∧ goodWord w = true := by decide +kernel
theorem u_S : ∀ w ∈ u_ws R_S F_S 3, w ∈ zB := fun w h => zB_mem (u_S_0 w h).1 (u_S_0 w h).2
theorem u_A_0 : ∀ w ∈ u_ws R_A F_A 3, w ∈ lw_tbl ∧ goodWord w = true := by decide +kernel
theorem u_A : ∀ w ∈ u_ws R_A F_A 3, w ∈ zB := fun w h => zB_mem (u_A_0 w h).1 (u_A_0 w h).2
theorem u_C_0 : ∀ w ∈ u_ws R_C F_C 10, w ∈ lw_tbl ∧ goodWord w = true := by decide +kernel
theorem u_C : ∀ w ∈ u_ws R_C F_C 10, w ∈ zB := fun w h => zB_mem (u_C_0 w h).1 (u_C_0 w h).2
theorem u_H_0 : ∀ w ∈ u_ws R_H F_H 5, w ∈ lw_tbl ∧ goodWord w = true := by decide +kernel
theorem u_H : ∀ w ∈ u_ws R_H F_H 5, w ∈ zB := fun w h => zB_mem (u_H_0 w h).1 (u_H_0 w h).2
theorem u_M_0 : ∀ w ∈ u_ws R_M F_M 23, w ∈ lw_tbl ∧ goodWord w = true := by decide +kernel
theorem u_M : ∀ w ∈ u_ws R_M F_M 23, w ∈ zB := fun w h => zB_mem (u_M_0 w h).1 (u_M_0 w h).2
end
section
theorem d_S_init_0 : decode c_S_init 0 = .ok (.aload_n 0, 1) := by decide +kernel
theorem d_S_init_1 : decode c_S_init 1 = .ok (.invokespecial 1, 3) := by decide +kernel
theorem d_S_init_4 : decode c_S_init 4 = .ok (.aload_n 0, 1) := by decide +kernel
theorem d_S_init_5 : decode c_S_init 5 = .ok (.new 7, 3) := by decide +kernel
theorem d_S_init_8 : decode c_S_init 8 = .ok (.dup, 1) := by decide +kernel
theorem d_S_init_9 : decode c_S_init 9 = .ok (.invokespecial 9, 3) := by decide +kernel
theorem d_S_init_12 : decode c_S_init 12 = .ok (.putfield 10, 3) := by decide +kernel
theorem d_S_init_15 : decode c_S_init 15 = .ok (.aload_n 0, 1) := by decide +kernel
theorem d_S_init_16 : decode c_S_init 16 = .ok (.new 16, 3) := by decide +kernel
theorem d_S_init_19 : decode c_S_init 19 = .ok (.dup, 1) := by decide +kernel
theorem d_S_init_20 : decode c_S_init 20 = .ok (.aload_n 0, 1) := by decide +kernel
theorem d_S_init_21 : decode c_S_init 21 = .ok (.getfield 10, 3) := by decide +kernel
theorem d_S_init_24 : decode c_S_init 24 = .ok (.invokespecial 18, 3) := by decide +kernel
theorem d_S_init_27 : decode c_S_init 27 = .ok (.putfield 21, 3) := by decide +kernel
theorem d_S_init_30 : decode c_S_init 30 = .ok (.aload_n 0, 1) := by decide +kernel
theorem d_S_init_31 : decode c_S_init 31 = .ok (.iconst 4, 1) := by decide +kernel
theorem d_S_init_32 : decode c_S_init 32 = .ok (.anewarray 25, 3) := by decide +kernel
theorem d_S_init_35 : decode c_S_init 35 = .ok (.putfield 27, 3) := by decide +kernel
theorem d_S_init_38 : decode c_S_init 38 = .ok (.iconst 0, 1) := by decide +kernel
theorem d_S_init_39 : decode c_S_init 39 = .ok (.istore_n 1, 1) := by decide +kernel
theorem d_S_init_40 : decode c_S_init 40 = .ok (.iload_n 1, 1) := by decide +kernel
theorem d_S_init_41 : decode c_S_init 41 = .ok (.iconst 4, 1) := by decide +kernel
theorem d_S_init_42 : decode c_S_init 42 = .ok (.if_icmp .ge 27, 3) := by decide +kernel
theorem d_S_init_45 : decode c_S_init 45 = .ok (.aload_n 0, 1) := by decide +kernel
theorem d_S_init_46 : decode c_S_init 46 = .ok (.getfield 27, 3) := by decide +kernel
theorem d_S_init_49 : decode c_S_init 49 = .ok (.iload_n 1, 1) := by decide +kernel
theorem d_S_init_50 : decode c_S_init 50 = .ok (.new 25, 3) := by decide +kernel
theorem d_S_init_53 : decode c_S_init 53 = .ok (.dup, 1) := by decide +kernel
theorem d_S_init_54 : decode c_S_init 54 = .ok (.iload_n 1, 1) := by decide +kernel
theorem d_S_init_55 : decode c_S_init 55 = .ok (.aload_n 0, 1) := by decide +kernel
theorem d_S_init_56 : decode c_S_init 56 = .ok (.getfield 10, 3) := by decide +kernel
theorem d_S_init_59 : decode c_S_init 59 = .ok (.invokespecial 31, 3) := by decide +kernel
theorem d_S_init_62 : decode c_S_init 62 = .ok (.aastore, 1) := by decide +kernel
theorem d_S_init_63 : decode c_S_init 63 = .ok (.iinc 1 1, 3) := by decide +kernel
theorem d_S_init_66 : decode c_S_init 66 = .ok (.goto (-26), 3) := by decide +kernel
theorem d_S_init_69 : decode c_S_init 69 = .ok (.return_, 1) := by decide +kernel
theorem d_S_load_0 : decode c_S_load 0 = .ok (.iload_n 1, 1) := by decide +kernel
theorem d_S_load_1 : decode c_S_load 1 = .ok (.iload_n 2, 1) := by decide +kernel
theorem d_S_load_2 : decode c_S_load 2 = .ok (.invokestatic 34, 3) := by decide +kernel
theorem d_S_load_5 : decode c_S_load 5 = .ok (.ifCond .eq 18, 3) := by decide +kernel
theorem d_S_load_8 : decode c_S_load 8 = .ok (.aload_n 0, 1) := by decide +kernel
theorem d_S_load_9 : decode c_S_load 9 = .ok (.getfield 27, 3) := by decide +kernel
theorem d_S_load_12 : decode c_S_load 12 = .ok (.iload_n 1, 1) := by decide +kernel
theorem d_S_load_13 : decode c_S_load 13 = .ok (.aaload, 1) := by decide +kernel
theorem d_S_load_14 : decode c_S_load 14 = .ok (.iconst 0, 1) := by decide +kernel
theorem d_S_load_15 : decode c_S_load 15 = .ok (.iload_n 2, 1) := by decide +kernel
theorem d_S_load_16 : decode c_S_load 16 = .ok (.iconst 0, 1) := by decide +kernel
theorem d_S_load_17 : decode c_S_load 17 = .ok (.invokevirtual 38, 3) := by decide +kernel
theorem d_S_load_20 : decode c_S_load 20 = .ok (.goto 4, 3) := by decide +kernel
theorem d_S_load_23 : decode c_S_load 23 = .ok (.iconst (-1), 1) := by decide +kernel
theorem d_S_load_24 : decode c_S_load 24 = .ok (.ireturn, 1) := by decide +kernel
theorem d_S_store_0 : decode c_S_store 0 = .ok (.iload_n 1, 1) := by decide +kernel
theorem d_S_store_1 : decode c_S_store 1 = .ok (.iload_n 2, 1) := by decide +kernel
theorem d_S_store_2 : decode c_S_store 2 = .ok (.invokestatic 34, 3) := by decide +kernel
theorem d_S_store_5 : decode c_S_store 5 = .ok (.ifCond .eq 18, 3) := by decide +kernel
theorem d_S_store_8 : decode c_S_store 8 = .ok (.aload_n 0, 1) := by decide +kernel
theorem d_S_store_9 : decode c_S_store 9 = .ok (.getfield 27, 3) := by decide +kernel
theorem d_S_store_12 : decode c_S_store 12 = .ok (.iload_n 1, 1) := by decide +kernel
theorem d_S_store_13 : decode c_S_store 13 = .ok (.aaload, 1) := by decide +kernel
theorem d_S_store_14 : decode c_S_store 14 = .ok (.iconst 1, 1) := by decide +kernel
theorem d_S_store_15 : decode c_S_store 15 = .ok (.iload_n 2, 1) := by decide +kernel
theorem d_S_store_16 : decode c_S_store 16 = .ok (.iload_n 3, 1) := by decide +kernel
theorem d_S_store_17 : decode c_S_store 17 = .ok (.invokevirtual 38, 3) := by decide +kernel
theorem d_S_store_20 : decode c_S_store 20 = .ok (.goto 4, 3) := by decide +kernel
theorem d_S_store_23 : decode c_S_store 23 = .ok (.iconst (-1), 1) := by decide +kernel
theorem d_S_store_24 : decode c_S_store 24 = .ok (.ireturn, 1) := by decide +kernel
theorem d_S_add_0 : decode c_S_add 0 = .ok (.iload_n 1, 1) := by decide +kernel
theorem d_S_add_1 : decode c_S_add 1 = .ok (.iload_n 2, 1) := by decide +kernel
theorem d_S_add_2 : decode c_S_add 2 = .ok (.invokestatic 34, 3) := by decide +kernel
theorem d_S_add_5 : decode c_S_add 5 = .ok (.ifCond .eq 18, 3) := by decide +kernel
theorem d_S_add_8 : decode c_S_add 8 = .ok (.aload_n 0, 1) := by decide +kernel
theorem d_S_add_9 : decode c_S_add 9 = .ok (.getfield 27, 3) := by decide +kernel
theorem d_S_add_12 : decode c_S_add 12 = .ok (.iload_n 1, 1) := by decide +kernel
theorem d_S_add_13 : decode c_S_add 13 = .ok (.aaload, 1) := by decide +kernel
theorem d_S_add_14 : decode c_S_add 14 = .ok (.iconst 2, 1) := by decide +kernel
theorem d_S_add_15 : decode c_S_add 15 = .ok (.iload_n 2, 1) := by decide +kernel
theorem d_S_add_16 : decode c_S_add 16 = .ok (.iload_n 3, 1) := by decide +kernel
theorem d_S_add_17 : decode c_S_add 17 = .ok (.invokevirtual 38, 3) := by decide +kernel
theorem d_S_add_20 : decode c_S_add 20 = .ok (.goto 4, 3) := by decide +kernel
theorem d_S_add_23 : decode c_S_add 23 = .ok (.iconst (-1), 1) := by decide +kernel
theorem d_S_add_24 : decode c_S_add 24 = .ok (.ireturn, 1) := by decide +kernel
theorem d_S_leave_0 : decode c_S_leave 0 = .ok (.iload_n 1, 1) := by decide +kernel
theorem d_S_leave_1 : decode c_S_leave 1 = .ok (.iload_n 2, 1) := by decide +kernel
theorem d_S_leave_2 : decode c_S_leave 2 = .ok (.invokestatic 34, 3) := by decide +kernel
theorem d_S_leave_5 : decode c_S_leave 5 = .ok (.ifCond .eq 16, 3) := by decide +kernel
theorem d_S_leave_8 : decode c_S_leave 8 = .ok (.aload_n 0, 1) := by decide +kernel
theorem d_S_leave_9 : decode c_S_leave 9 = .ok (.getfield 27, 3) := by decide +kernel
theorem d_S_leave_12 : decode c_S_leave 12 = .ok (.iload_n 1, 1) := by decide +kernel
theorem d_S_leave_13 : decode c_S_leave 13 = .ok (.aaload, 1) := by decide +kernel
theorem d_S_leave_14 : decode c_S_leave 14 = .ok (.iload_n 2, 1) := by decide +kernel
theorem d_S_leave_15 : decode c_S_leave 15 = .ok (.invokevirtual 42, 3) := by decide +kernel
theorem d_S_leave_18 : decode c_S_leave 18 = .ok (.goto 4, 3) := by decide +kernel
theorem d_S_leave_21 : decode c_S_leave 21 = .ok (.iconst (-1), 1) := by decide +kernel
theorem d_S_leave_22 : decode c_S_leave 22 = .ok (.ireturn, 1) := by decide +kernel
theorem d_S_deliver_0 : decode c_S_deliver 0 = .ok (.aload_n 0, 1) := by decide +kernel
theorem d_S_deliver_1 : decode c_S_deliver 1 = .ok (.getfield 10, 3) := by decide +kernel
theorem d_S_deliver_4 : decode c_S_deliver 4 = .ok (.iload_n 1, 1) := by decide +kernel
theorem d_S_deliver_5 : decode c_S_deliver 5 = .ok (.invokevirtual 46, 3) := by decide +kernel
theorem d_S_deliver_8 : decode c_S_deliver 8 = .ok (.ifCond .ne 5, 3) := by decide +kernel
theorem d_S_deliver_11 : decode c_S_deliver 11 = .ok (.iconst (-1), 1) := by decide +kernel
theorem d_S_deliver_12 : decode c_S_deliver 12 = .ok (.ireturn, 1) := by decide +kernel
theorem d_S_deliver_13 : decode c_S_deliver 13 = .ok (.aload_n 0, 1) := by decide +kernel
theorem d_S_deliver_14 : decode c_S_deliver 14 = .ok (.iload_n 1, 1) := by decide +kernel
theorem d_S_deliver_15 : decode c_S_deliver 15 = .ok (.invokevirtual 50, 3) := by decide +kernel
theorem d_S_deliver_18 : decode c_S_deliver 18 = .ok (.istore_n 2, 1) := by decide +kernel
theorem d_S_deliver_19 : decode c_S_deliver 19 = .ok (.iload_n 2, 1) := by decide +kernel
theorem d_S_deliver_20 : decode c_S_deliver 20 = .ok (.iconst 2, 1) := by decide +kernel
theorem d_S_deliver_21 : decode c_S_deliver 21 = .ok (.if_icmp .ne 8, 3) := by decide +kernel
theorem d_S_deliver_24 : decode c_S_deliver 24 = .ok (.aload_n 0, 1) := by decide +kernel
theorem d_S_deliver_25 : decode c_S_deliver 25 = .ok (.iload_n 1, 1) := by decide +kernel
theorem d_S_deliver_26 : decode c_S_deliver 26 = .ok (.invokevirtual 53, 3) := by decide +kernel
theorem d_S_deliver_29 : decode c_S_deliver 29 = .ok (.iload_n 2, 1) := by decide +kernel
theorem d_S_deliver_30 : decode c_S_deliver 30 = .ok (.ireturn, 1) := by decide +kernel
theorem d_S_message_0 : decode c_S_message 0 = .ok (.iload_n 1, 1) := by decide +kernel
theorem d_S_message_1 : decode c_S_message 1 = .ok (.iconst (-1), 1) := by decide +kernel
theorem d_S_message_2 : decode c_S_message 2 = .ok (.if_icmp .ne 11, 3) := by decide +kernel
theorem d_S_message_5 : decode c_S_message 5 = .ok (.aload_n 0, 1) := by decide +kernel
theorem d_S_message_6 : decode c_S_message 6 = .ok (.getfield 10, 3) := by decide +kernel
theorem d_S_message_9 : decode c_S_message 9 = .ok (.getfield 57, 3) := by decide +kernel
theorem d_S_message_12 : decode c_S_message 12 = .ok (.ireturn, 1) := by decide +kernel
theorem d_S_message_13 : decode c_S_message 13 = .ok (.aload_n 0, 1) := by decide +kernel
theorem d_S_message_14 : decode c_S_message 14 = .ok (.getfield 10, 3) := by decide +kernel
theorem d_S_message_17 : decode c_S_message 17 = .ok (.iload_n 1, 1) := by decide +kernel
theorem d_S_message_18 : decode c_S_message 18 = .ok (.invokevirtual 46, 3) := by decide +kernel
theorem d_S_message_21 : decode c_S_message 21 = .ok (.ifCond .eq 12, 3) := by decide +kernel
theorem d_S_message_24 : decode c_S_message 24 = .ok (.iload_n 2, 1) := by decide +kernel
theorem d_S_message_25 : decode c_S_message 25 = .ok (.ifCond .lt 8, 3) := by decide +kernel
theorem d_S_message_28 : decode c_S_message 28 = .ok (.iload_n 2, 1) := by decide +kernel
theorem d_S_message_29 : decode c_S_message 29 = .ok (.iconst 5, 1) := by decide +kernel
theorem d_S_message_30 : decode c_S_message 30 = .ok (.if_icmp .le 5, 3) := by decide +kernel
theorem d_S_message_33 : decode c_S_message 33 = .ok (.iconst (-1), 1) := by decide +kernel
theorem d_S_message_34 : decode c_S_message 34 = .ok (.ireturn, 1) := by decide +kernel
theorem d_S_message_35 : decode c_S_message 35 = .ok (.aload_n 0, 1) := by decide +kernel
theorem d_S_message_36 : decode c_S_message 36 = .ok (.getfield 10, 3) := by decide +kernel
theorem d_S_message_39 : decode c_S_message 39 = .ok (.iload_n 1, 1) := by decide +kernel
theorem d_S_message_40 : decode c_S_message 40 = .ok (.iload_n 2, 1) := by decide +kernel
theorem d_S_message_41 : decode c_S_message 41 = .ok (.invokevirtual 61, 3) := by decide +kernel
theorem d_S_message_44 : decode c_S_message 44 = .ok (.ireturn, 1) := by decide +kernel
theorem d_S_carried_0 : decode c_S_carried 0 = .ok (.aload_n 0, 1) := by decide +kernel
theorem d_S_carried_1 : decode c_S_carried 1 = .ok (.getfield 10, 3) := by decide +kernel
theorem d_S_carried_4 : decode c_S_carried 4 = .ok (.iload_n 1, 1) := by decide +kernel
theorem d_S_carried_5 : decode c_S_carried 5 = .ok (.invokevirtual 46, 3) := by decide +kernel
theorem d_S_carried_8 : decode c_S_carried 8 = .ok (.ifCond .eq 16, 3) := by decide +kernel
theorem d_S_carried_11 : decode c_S_carried 11 = .ok (.aload_n 0, 1) := by decide +kernel
theorem d_S_carried_12 : decode c_S_carried 12 = .ok (.getfield 10, 3) := by decide +kernel
theorem d_S_carried_15 : decode c_S_carried 15 = .ok (.iload_n 1, 1) := by decide +kernel
theorem d_S_carried_16 : decode c_S_carried 16 = .ok (.bipush 6, 2) := by decide +kernel
theorem d_S_carried_18 : decode c_S_carried 18 = .ok (.invokevirtual 61, 3) := by decide +kernel
theorem d_S_carried_21 : decode c_S_carried 21 = .ok (.goto 4, 3) := by decide +kernel
theorem d_S_carried_24 : decode c_S_carried 24 = .ok (.iconst 0, 1) := by decide +kernel
theorem d_S_carried_25 : decode c_S_carried 25 = .ok (.ireturn, 1) := by decide +kernel
theorem d_S_state_0 : decode c_S_state 0 = .ok (.iload_n 1, 1) := by decide +kernel
theorem d_S_state_1 : decode c_S_state 1 = .ok (.iload_n 2, 1) := by decide +kernel
theorem d_S_state_2 : decode c_S_state 2 = .ok (.invokestatic 34, 3) := by decide +kernel
theorem d_S_state_5 : decode c_S_state 5 = .ok (.ifCond .eq 17, 3) := by decide +kernel
theorem d_S_state_8 : decode c_S_state 8 = .ok (.aload_n 0, 1) := by decide +kernel
theorem d_S_state_9 : decode c_S_state 9 = .ok (.getfield 27, 3) := by decide +kernel
theorem d_S_state_12 : decode c_S_state 12 = .ok (.iload_n 1, 1) := by decide +kernel
theorem d_S_state_13 : decode c_S_state 13 = .ok (.aaload, 1) := by decide +kernel
theorem d_S_state_14 : decode c_S_state 14 = .ok (.getfield 65, 3) := by decide +kernel
theorem d_S_state_17 : decode c_S_state 17 = .ok (.iload_n 2, 1) := by decide +kernel
theorem d_S_state_18 : decode c_S_state 18 = .ok (.iaload, 1) := by decide +kernel
theorem d_S_state_19 : decode c_S_state 19 = .ok (.goto 4, 3) := by decide +kernel
theorem d_S_state_22 : decode c_S_state 22 = .ok (.iconst (-1), 1) := by decide +kernel
theorem d_S_state_23 : decode c_S_state 23 = .ok (.ireturn, 1) := by decide +kernel
theorem d_S_value_0 : decode c_S_value 0 = .ok (.iload_n 1, 1) := by decide +kernel
theorem d_S_value_1 : decode c_S_value 1 = .ok (.iload_n 2, 1) := by decide +kernel
theorem d_S_value_2 : decode c_S_value 2 = .ok (.invokestatic 34, 3) := by decide +kernel
theorem d_S_value_5 : decode c_S_value 5 = .ok (.ifCond .eq 16, 3) := by decide +kernel
theorem d_S_value_8 : decode c_S_value 8 = .ok (.aload_n 0, 1) := by decide +kernel
theorem d_S_value_9 : decode c_S_value 9 = .ok (.getfield 27, 3) := by decide +kernel
theorem d_S_value_12 : decode c_S_value 12 = .ok (.iload_n 1, 1) := by decide +kernel
theorem d_S_value_13 : decode c_S_value 13 = .ok (.aaload, 1) := by decide +kernel
theorem d_S_value_14 : decode c_S_value 14 = .ok (.iload_n 2, 1) := by decide +kernel
theorem d_S_value_15 : decode c_S_value 15 = .ok (.invokevirtual 69, 3) := by decide +kernel
theorem d_S_value_18 : decode c_S_value 18 = .ok (.goto 4, 3) := by decide +kernel
theorem d_S_value_21 : decode c_S_value 21 = .ok (.iconst 0, 1) := by decide +kernel
theorem d_S_value_22 : decode c_S_value 22 = .ok (.ireturn, 1) := by decide +kernel
theorem d_S_due_0 : decode c_S_due 0 = .ok (.iload_n 1, 1) := by decide +kernel
theorem d_S_due_1 : decode c_S_due 1 = .ok (.iload_n 2, 1) := by decide +kernel
theorem d_S_due_2 : decode c_S_due 2 = .ok (.invokestatic 34, 3) := by decide +kernel
theorem d_S_due_5 : decode c_S_due 5 = .ok (.ifCond .eq 16, 3) := by decide +kernel
theorem d_S_due_8 : decode c_S_due 8 = .ok (.aload_n 0, 1) := by decide +kernel
theorem d_S_due_9 : decode c_S_due 9 = .ok (.getfield 27, 3) := by decide +kernel
theorem d_S_due_12 : decode c_S_due 12 = .ok (.iload_n 1, 1) := by decide +kernel
theorem d_S_due_13 : decode c_S_due 13 = .ok (.aaload, 1) := by decide +kernel
theorem d_S_due_14 : decode c_S_due 14 = .ok (.iload_n 2, 1) := by decide +kernel
theorem d_S_due_15 : decode c_S_due 15 = .ok (.invokevirtual 72, 3) := by decide +kernel
theorem d_S_due_18 : decode c_S_due 18 = .ok (.goto 4, 3) := by decide +kernel
theorem d_S_due_21 : decode c_S_due 21 = .ok (.iconst (-1), 1) := by decide +kernel
theorem d_S_due_22 : decode c_S_due 22 = .ok (.ireturn, 1) := by decide +kernel
theorem d_S_home_0 : decode c_S_home 0 = .ok (.iload_n 1, 1) := by decide +kernel
theorem d_S_home_1 : decode c_S_home 1 = .ok (.invokestatic 75, 3) := by decide +kernel
theorem d_S_home_4 : decode c_S_home 4 = .ok (.ifCond .eq 14, 3) := by decide +kernel
theorem d_S_home_7 : decode c_S_home 7 = .ok (.aload_n 0, 1) := by decide +kernel
theorem d_S_home_8 : decode c_S_home 8 = .ok (.getfield 21, 3) := by decide +kernel
theorem d_S_home_11 : decode c_S_home 11 = .ok (.iload_n 1, 1) := by decide +kernel
theorem d_S_home_12 : decode c_S_home 12 = .ok (.invokevirtual 78, 3) := by decide +kernel
theorem d_S_home_15 : decode c_S_home 15 = .ok (.goto 4, 3) := by decide +kernel
theorem d_S_home_18 : decode c_S_home 18 = .ok (.iconst (-1), 1) := by decide +kernel
theorem d_S_home_19 : decode c_S_home 19 = .ok (.ireturn, 1) := by decide +kernel
theorem d_S_memory_0 : decode c_S_memory 0 = .ok (.iload_n 1, 1) := by decide +kernel
theorem d_S_memory_1 : decode c_S_memory 1 = .ok (.invokestatic 75, 3) := by decide +kernel
theorem d_S_memory_4 : decode c_S_memory 4 = .ok (.ifCond .eq 15, 3) := by decide +kernel
theorem d_S_memory_7 : decode c_S_memory 7 = .ok (.aload_n 0, 1) := by decide +kernel
theorem d_S_memory_8 : decode c_S_memory 8 = .ok (.getfield 21, 3) := by decide +kernel
theorem d_S_memory_11 : decode c_S_memory 11 = .ok (.getfield 81, 3) := by decide +kernel
theorem d_S_memory_14 : decode c_S_memory 14 = .ok (.iload_n 1, 1) := by decide +kernel
theorem d_S_memory_15 : decode c_S_memory 15 = .ok (.iaload, 1) := by decide +kernel
theorem d_S_memory_16 : decode c_S_memory 16 = .ok (.goto 4, 3) := by decide +kernel
theorem d_S_memory_19 : decode c_S_memory 19 = .ok (.iconst 0, 1) := by decide +kernel
theorem d_S_memory_20 : decode c_S_memory 20 = .ok (.ireturn, 1) := by decide +kernel
theorem d_S_waits_0 : decode c_S_waits 0 = .ok (.iload_n 1, 1) := by decide +kernel
theorem d_S_waits_1 : decode c_S_waits 1 = .ok (.invokestatic 84, 3) := by decide +kernel
theorem d_S_waits_4 : decode c_S_waits 4 = .ok (.ifCond .eq 19, 3) := by decide +kernel
theorem d_S_waits_7 : decode c_S_waits 7 = .ok (.aload_n 0, 1) := by decide +kernel
theorem d_S_waits_8 : decode c_S_waits 8 = .ok (.getfield 27, 3) := by decide +kernel
theorem d_S_waits_11 : decode c_S_waits 11 = .ok (.iload_n 1, 1) := by decide +kernel
theorem d_S_waits_12 : decode c_S_waits 12 = .ok (.aaload, 1) := by decide +kernel
theorem d_S_waits_13 : decode c_S_waits 13 = .ok (.getfield 87, 3) := by decide +kernel
theorem d_S_waits_16 : decode c_S_waits 16 = .ok (.ifCond .eq 7, 3) := by decide +kernel
theorem d_S_waits_19 : decode c_S_waits 19 = .ok (.iconst 1, 1) := by decide +kernel
theorem d_S_waits_20 : decode c_S_waits 20 = .ok (.goto 4, 3) := by decide +kernel
theorem d_S_waits_23 : decode c_S_waits 23 = .ok (.iconst 0, 1) := by decide +kernel
theorem d_S_waits_24 : decode c_S_waits 24 = .ok (.ireturn, 1) := by decide +kernel
theorem d_S_done_0 : decode c_S_done 0 = .ok (.iload_n 1, 1) := by decide +kernel
theorem d_S_done_1 : decode c_S_done 1 = .ok (.invokestatic 84, 3) := by decide +kernel
theorem d_S_done_4 : decode c_S_done 4 = .ok (.ifCond .eq 15, 3) := by decide +kernel
theorem d_S_done_7 : decode c_S_done 7 = .ok (.aload_n 0, 1) := by decide +kernel
theorem d_S_done_8 : decode c_S_done 8 = .ok (.getfield 27, 3) := by decide +kernel
theorem d_S_done_11 : decode c_S_done 11 = .ok (.iload_n 1, 1) := by decide +kernel
theorem d_S_done_12 : decode c_S_done 12 = .ok (.aaload, 1) := by decide +kernel
theorem d_S_done_13 : decode c_S_done 13 = .ok (.getfield 91, 3) := by decide +kernel
theorem d_S_done_16 : decode c_S_done 16 = .ok (.goto 4, 3) := by decide +kernel
theorem d_S_done_19 : decode c_S_done 19 = .ok (.iconst (-1), 1) := by decide +kernel
theorem d_S_done_20 : decode c_S_done 20 = .ok (.ireturn, 1) := by decide +kernel
theorem d_S_result_0 : decode c_S_result 0 = .ok (.iload_n 1, 1) := by decide +kernel
theorem d_S_result_1 : decode c_S_result 1 = .ok (.invokestatic 84, 3) := by decide +kernel
theorem d_S_result_4 : decode c_S_result 4 = .ok (.ifCond .eq 15, 3) := by decide +kernel
theorem d_S_result_7 : decode c_S_result 7 = .ok (.aload_n 0, 1) := by decide +kernel
theorem d_S_result_8 : decode c_S_result 8 = .ok (.getfield 27, 3) := by decide +kernel
theorem d_S_result_11 : decode c_S_result 11 = .ok (.iload_n 1, 1) := by decide +kernel
theorem d_S_result_12 : decode c_S_result 12 = .ok (.aaload, 1) := by decide +kernel
theorem d_S_result_13 : decode c_S_result 13 = .ok (.getfield 94, 3) := by decide +kernel
theorem d_S_result_16 : decode c_S_result 16 = .ok (.goto 4, 3) := by decide +kernel
theorem d_S_result_19 : decode c_S_result 19 = .ok (.iconst 0, 1) := by decide +kernel
theorem d_S_result_20 : decode c_S_result 20 = .ok (.ireturn, 1) := by decide +kernel
theorem d_S_tally_0 : decode c_S_tally 0 = .ok (.iload_n 1, 1) := by decide +kernel
theorem d_S_tally_1 : decode c_S_tally 1 = .ok (.iload_n 2, 1) := by decide +kernel
theorem d_S_tally_2 : decode c_S_tally 2 = .ok (.invokestatic 34, 3) := by decide +kernel
theorem d_S_tally_5 : decode c_S_tally 5 = .ok (.ifCond .eq 17, 3) := by decide +kernel
theorem d_S_tally_8 : decode c_S_tally 8 = .ok (.aload_n 0, 1) := by decide +kernel
theorem d_S_tally_9 : decode c_S_tally 9 = .ok (.getfield 10, 3) := by decide +kernel
theorem d_S_tally_12 : decode c_S_tally 12 = .ok (.getfield 97, 3) := by decide +kernel
theorem d_S_tally_15 : decode c_S_tally 15 = .ok (.iload_n 1, 1) := by decide +kernel
theorem d_S_tally_16 : decode c_S_tally 16 = .ok (.aaload, 1) := by decide +kernel
theorem d_S_tally_17 : decode c_S_tally 17 = .ok (.iload_n 2, 1) := by decide +kernel
theorem d_S_tally_18 : decode c_S_tally 18 = .ok (.iaload, 1) := by decide +kernel
theorem d_S_tally_19 : decode c_S_tally 19 = .ok (.goto 4, 3) := by decide +kernel
theorem d_S_tally_22 : decode c_S_tally 22 = .ok (.iconst (-1), 1) := by decide +kernel
theorem d_S_tally_23 : decode c_S_tally 23 = .ok (.ireturn, 1) := by decide +kernel
theorem d_S_run_0 : decode c_S_run 0 = .ok (.iload_n 1, 1) := by decide +kernel
theorem d_S_run_1 : decode c_S_run 1 = .ok (.iconst 1, 1) := by decide +kernel
theorem d_S_run_2 : decode c_S_run 2 = .ok (.if_icmp .lt 9, 3) := by decide +kernel
theorem d_S_run_5 : decode c_S_run 5 = .ok (.iload_n 1, 1) := by decide +kernel
theorem d_S_run_6 : decode c_S_run 6 = .ok (.bipush 64, 2) := by decide +kernel
theorem d_S_run_8 : decode c_S_run 8 = .ok (.if_icmp .le 5, 3) := by decide +kernel
theorem d_S_run_11 : decode c_S_run 11 = .ok (.iconst 0, 1) := by decide +kernel
theorem d_S_run_12 : decode c_S_run 12 = .ok (.ireturn, 1) := by decide +kernel
theorem d_S_run_13 : decode c_S_run 13 = .ok (.iconst 0, 1) := by decide +kernel
theorem d_S_run_14 : decode c_S_run 14 = .ok (.istore_n 2, 1) := by decide +kernel
theorem d_S_run_15 : decode c_S_run 15 = .ok (.iload_n 2, 1) := by decide +kernel
theorem d_S_run_16 : decode c_S_run 16 = .ok (.iload_n 1, 1) := by decide +kernel
theorem d_S_run_17 : decode c_S_run 17 = .ok (.if_icmp .ge 32, 3) := by decide +kernel
theorem d_S_run_20 : decode c_S_run 20 = .ok (.aload_n 0, 1) := by decide +kernel
theorem d_S_run_21 : decode c_S_run 21 = .ok (.invokevirtual 101, 3) := by decide +kernel
theorem d_S_run_24 : decode c_S_run 24 = .ok (.istore_n 3, 1) := by decide +kernel
theorem d_S_run_25 : decode c_S_run 25 = .ok (.aload_n 0, 1) := by decide +kernel
theorem d_S_run_26 : decode c_S_run 26 = .ok (.getfield 10, 3) := by decide +kernel
theorem d_S_run_29 : decode c_S_run 29 = .ok (.iload_n 3, 1) := by decide +kernel
theorem d_S_run_30 : decode c_S_run 30 = .ok (.invokevirtual 46, 3) := by decide +kernel
theorem d_S_run_33 : decode c_S_run 33 = .ok (.ifCond .ne 5, 3) := by decide +kernel
theorem d_S_run_36 : decode c_S_run 36 = .ok (.iload_n 2, 1) := by decide +kernel
theorem d_S_run_37 : decode c_S_run 37 = .ok (.ireturn, 1) := by decide +kernel
theorem d_S_run_38 : decode c_S_run 38 = .ok (.aload_n 0, 1) := by decide +kernel
theorem d_S_run_39 : decode c_S_run 39 = .ok (.iload_n 3, 1) := by decide +kernel
theorem d_S_run_40 : decode c_S_run 40 = .ok (.invokevirtual 53, 3) := by decide +kernel
theorem d_S_run_43 : decode c_S_run 43 = .ok (.iinc 2 1, 3) := by decide +kernel
theorem d_S_run_46 : decode c_S_run 46 = .ok (.goto (-31), 3) := by decide +kernel
theorem d_S_run_49 : decode c_S_run 49 = .ok (.iload_n 1, 1) := by decide +kernel
theorem d_S_run_50 : decode c_S_run 50 = .ok (.ireturn, 1) := by decide +kernel
theorem d_S_isCore_0 : decode c_S_isCore 0 = .ok (.iload_n 0, 1) := by decide +kernel
theorem d_S_isCore_1 : decode c_S_isCore 1 = .ok (.ifCond .lt 12, 3) := by decide +kernel
theorem d_S_isCore_4 : decode c_S_isCore 4 = .ok (.iload_n 0, 1) := by decide +kernel
theorem d_S_isCore_5 : decode c_S_isCore 5 = .ok (.iconst 4, 1) := by decide +kernel
theorem d_S_isCore_6 : decode c_S_isCore 6 = .ok (.if_icmp .ge 7, 3) := by decide +kernel
theorem d_S_isCore_9 : decode c_S_isCore 9 = .ok (.iconst 1, 1) := by decide +kernel
theorem d_S_isCore_10 : decode c_S_isCore 10 = .ok (.goto 4, 3) := by decide +kernel
theorem d_S_isCore_13 : decode c_S_isCore 13 = .ok (.iconst 0, 1) := by decide +kernel
theorem d_S_isCore_14 : decode c_S_isCore 14 = .ok (.ireturn, 1) := by decide +kernel
theorem d_S_isLine_0 : decode c_S_isLine 0 = .ok (.iload_n 0, 1) := by decide +kernel
theorem d_S_isLine_1 : decode c_S_isLine 1 = .ok (.ifCond .lt 12, 3) := by decide +kernel
theorem d_S_isLine_4 : decode c_S_isLine 4 = .ok (.iload_n 0, 1) := by decide +kernel
theorem d_S_isLine_5 : decode c_S_isLine 5 = .ok (.iconst 4, 1) := by decide +kernel
theorem d_S_isLine_6 : decode c_S_isLine 6 = .ok (.if_icmp .ge 7, 3) := by decide +kernel
theorem d_S_isLine_9 : decode c_S_isLine 9 = .ok (.iconst 1, 1) := by decide +kernel
theorem d_S_isLine_10 : decode c_S_isLine 10 = .ok (.goto 4, 3) := by decide +kernel
theorem d_S_isLine_13 : decode c_S_isLine 13 = .ok (.iconst 0, 1) := by decide +kernel
theorem d_S_isLine_14 : decode c_S_isLine 14 = .ok (.ireturn, 1) := by decide +kernel
theorem d_S_isCopy_0 : decode c_S_isCopy 0 = .ok (.iload_n 0, 1) := by decide +kernel
theorem d_S_isCopy_1 : decode c_S_isCopy 1 = .ok (.invokestatic 84, 3) := by decide +kernel
theorem d_S_isCopy_4 : decode c_S_isCopy 4 = .ok (.ifCond .eq 14, 3) := by decide +kernel
theorem d_S_isCopy_7 : decode c_S_isCopy 7 = .ok (.iload_n 1, 1) := by decide +kernel
theorem d_S_isCopy_8 : decode c_S_isCopy 8 = .ok (.invokestatic 75, 3) := by decide +kernel
theorem d_S_isCopy_11 : decode c_S_isCopy 11 = .ok (.ifCond .eq 7, 3) := by decide +kernel
theorem d_S_isCopy_14 : decode c_S_isCopy 14 = .ok (.iconst 1, 1) := by decide +kernel
theorem d_S_isCopy_15 : decode c_S_isCopy 15 = .ok (.goto 4, 3) := by decide +kernel
theorem d_S_isCopy_18 : decode c_S_isCopy 18 = .ok (.iconst 0, 1) := by decide +kernel
theorem d_S_isCopy_19 : decode c_S_isCopy 19 = .ok (.ireturn, 1) := by decide +kernel
theorem d_S_oldestToTake_0 : decode c_S_oldestToTake 0 = .ok (.iconst 0, 1) := by decide +kernel
theorem d_S_oldestToTake_1 : decode c_S_oldestToTake 1 = .ok (.istore_n 1, 1) := by decide +kernel
theorem d_S_oldestToTake_2 : decode c_S_oldestToTake 2 = .ok (.iload_n 1, 1) := by decide +kernel
theorem d_S_oldestToTake_3 : decode c_S_oldestToTake 3 = .ok (.aload_n 0, 1) := by decide +kernel
theorem d_S_oldestToTake_4 : decode c_S_oldestToTake 4 = .ok (.getfield 10, 3) := by decide +kernel
theorem d_S_oldestToTake_7 : decode c_S_oldestToTake 7 = .ok (.getfield 57, 3) := by decide +kernel
theorem d_S_oldestToTake_10 : decode c_S_oldestToTake 10 = .ok (.if_icmp .ge 20, 3) := by decide +kernel
theorem d_S_oldestToTake_13 : decode c_S_oldestToTake 13 = .ok (.aload_n 0, 1) := by decide +kernel
theorem d_S_oldestToTake_14 : decode c_S_oldestToTake 14 = .ok (.iload_n 1, 1) := by decide +kernel
theorem d_S_oldestToTake_15 : decode c_S_oldestToTake 15 = .ok (.invokevirtual 50, 3) := by decide +kernel
theorem d_S_oldestToTake_18 : decode c_S_oldestToTake 18 = .ok (.iconst 2, 1) := by decide +kernel
theorem d_S_oldestToTake_19 : decode c_S_oldestToTake 19 = .ok (.if_icmp .ne 5, 3) := by decide +kernel
theorem d_S_oldestToTake_22 : decode c_S_oldestToTake 22 = .ok (.iload_n 1, 1) := by decide +kernel
theorem d_S_oldestToTake_23 : decode c_S_oldestToTake 23 = .ok (.ireturn, 1) := by decide +kernel
theorem d_S_oldestToTake_24 : decode c_S_oldestToTake 24 = .ok (.iinc 1 1, 3) := by decide +kernel
theorem d_S_oldestToTake_27 : decode c_S_oldestToTake 27 = .ok (.goto (-25), 3) := by decide +kernel
theorem d_S_oldestToTake_30 : decode c_S_oldestToTake 30 = .ok (.aload_n 0, 1) := by decide +kernel
theorem d_S_oldestToTake_31 : decode c_S_oldestToTake 31 = .ok (.getfield 10, 3) := by decide +kernel
theorem d_S_oldestToTake_34 : decode c_S_oldestToTake 34 = .ok (.getfield 57, 3) := by decide +kernel
theorem d_S_oldestToTake_37 : decode c_S_oldestToTake 37 = .ok (.ireturn, 1) := by decide +kernel
theorem d_S_fateOf_0 : decode c_S_fateOf 0 = .ok (.aload_n 0, 1) := by decide +kernel
theorem d_S_fateOf_1 : decode c_S_fateOf 1 = .ok (.getfield 10, 3) := by decide +kernel
theorem d_S_fateOf_4 : decode c_S_fateOf 4 = .ok (.iload_n 1, 1) := by decide +kernel
theorem d_S_fateOf_5 : decode c_S_fateOf 5 = .ok (.invokevirtual 105, 3) := by decide +kernel
theorem d_S_fateOf_8 : decode c_S_fateOf 8 = .ok (.ifCond .eq 5, 3) := by decide +kernel
theorem d_S_fateOf_11 : decode c_S_fateOf 11 = .ok (.iconst 0, 1) := by decide +kernel
theorem d_S_fateOf_12 : decode c_S_fateOf 12 = .ok (.ireturn, 1) := by decide +kernel
theorem d_S_fateOf_13 : decode c_S_fateOf 13 = .ok (.aload_n 0, 1) := by decide +kernel
theorem d_S_fateOf_14 : decode c_S_fateOf 14 = .ok (.iload_n 1, 1) := by decide +kernel
theorem d_S_fateOf_15 : decode c_S_fateOf 15 = .ok (.invokevirtual 108, 3) := by decide +kernel
theorem d_S_fateOf_18 : decode c_S_fateOf 18 = .ok (.ifCond .eq 7, 3) := by decide +kernel
theorem d_S_fateOf_21 : decode c_S_fateOf 21 = .ok (.iconst 1, 1) := by decide +kernel
theorem d_S_fateOf_22 : decode c_S_fateOf 22 = .ok (.goto 4, 3) := by decide +kernel
theorem d_S_fateOf_25 : decode c_S_fateOf 25 = .ok (.iconst 2, 1) := by decide +kernel
theorem d_S_fateOf_26 : decode c_S_fateOf 26 = .ok (.ireturn, 1) := by decide +kernel
theorem d_S_isStalled_0 : decode c_S_isStalled 0 = .ok (.aload_n 0, 1) := by decide +kernel
theorem d_S_isStalled_1 : decode c_S_isStalled 1 = .ok (.getfield 10, 3) := by decide +kernel
theorem d_S_isStalled_4 : decode c_S_isStalled 4 = .ok (.iload_n 1, 1) := by decide +kernel
theorem d_S_isStalled_5 : decode c_S_isStalled 5 = .ok (.iconst 3, 1) := by decide +kernel
theorem d_S_isStalled_6 : decode c_S_isStalled 6 = .ok (.invokevirtual 61, 3) := by decide +kernel
theorem d_S_isStalled_9 : decode c_S_isStalled 9 = .ok (.istore_n 2, 1) := by decide +kernel
theorem d_S_isStalled_10 : decode c_S_isStalled 10 = .ok (.aload_n 0, 1) := by decide +kernel
theorem d_S_isStalled_11 : decode c_S_isStalled 11 = .ok (.getfield 10, 3) := by decide +kernel
theorem d_S_isStalled_14 : decode c_S_isStalled 14 = .ok (.iload_n 1, 1) := by decide +kernel
theorem d_S_isStalled_15 : decode c_S_isStalled 15 = .ok (.iconst 0, 1) := by decide +kernel
theorem d_S_isStalled_16 : decode c_S_isStalled 16 = .ok (.invokevirtual 61, 3) := by decide +kernel
theorem d_S_isStalled_19 : decode c_S_isStalled 19 = .ok (.istore_n 3, 1) := by decide +kernel
theorem d_S_isStalled_20 : decode c_S_isStalled 20 = .ok (.aload_n 0, 1) := by decide +kernel
theorem d_S_isStalled_21 : decode c_S_isStalled 21 = .ok (.getfield 10, 3) := by decide +kernel
theorem d_S_isStalled_24 : decode c_S_isStalled 24 = .ok (.iload_n 1, 1) := by decide +kernel
theorem d_S_isStalled_25 : decode c_S_isStalled 25 = .ok (.iconst 1, 1) := by decide +kernel
theorem d_S_isStalled_26 : decode c_S_isStalled 26 = .ok (.invokevirtual 61, 3) := by decide +kernel
theorem d_S_isStalled_29 : decode c_S_isStalled 29 = .ok (.istore 4, 2) := by decide +kernel
theorem d_S_isStalled_31 : decode c_S_isStalled 31 = .ok (.iload_n 2, 1) := by decide +kernel
theorem d_S_isStalled_32 : decode c_S_isStalled 32 = .ok (.iconst 4, 1) := by decide +kernel
theorem d_S_isStalled_33 : decode c_S_isStalled 33 = .ok (.if_icmp .ne 16, 3) := by decide +kernel
theorem d_S_isStalled_36 : decode c_S_isStalled 36 = .ok (.aload_n 0, 1) := by decide +kernel
theorem d_S_isStalled_37 : decode c_S_isStalled 37 = .ok (.getfield 21, 3) := by decide +kernel
theorem d_S_isStalled_40 : decode c_S_isStalled 40 = .ok (.iload_n 3, 1) := by decide +kernel
theorem d_S_isStalled_41 : decode c_S_isStalled 41 = .ok (.iload 4, 2) := by decide +kernel
theorem d_S_isStalled_43 : decode c_S_isStalled 43 = .ok (.invokevirtual 111, 3) := by decide +kernel
theorem d_S_isStalled_46 : decode c_S_isStalled 46 = .ok (.goto 15, 3) := by decide +kernel
theorem d_S_isStalled_49 : decode c_S_isStalled 49 = .ok (.aload_n 0, 1) := by decide +kernel
theorem d_S_isStalled_50 : decode c_S_isStalled 50 = .ok (.getfield 27, 3) := by decide +kernel
theorem d_S_isStalled_53 : decode c_S_isStalled 53 = .ok (.iload_n 2, 1) := by decide +kernel
theorem d_S_isStalled_54 : decode c_S_isStalled 54 = .ok (.aaload, 1) := by decide +kernel
theorem d_S_isStalled_55 : decode c_S_isStalled 55 = .ok (.iload_n 3, 1) := by decide +kernel
theorem d_S_isStalled_56 : decode c_S_isStalled 56 = .ok (.iload 4, 2) := by decide +kernel
theorem d_S_isStalled_58 : decode c_S_isStalled 58 = .ok (.invokevirtual 114, 3) := by decide +kernel
theorem d_S_isStalled_61 : decode c_S_isStalled 61 = .ok (.ireturn, 1) := by decide +kernel
theorem d_S_handOver_0 : decode c_S_handOver 0 = .ok (.aload_n 0, 1) := by decide +kernel
theorem d_S_handOver_1 : decode c_S_handOver 1 = .ok (.getfield 10, 3) := by decide +kernel
theorem d_S_handOver_4 : decode c_S_handOver 4 = .ok (.iload_n 1, 1) := by decide +kernel
theorem d_S_handOver_5 : decode c_S_handOver 5 = .ok (.iconst 3, 1) := by decide +kernel
theorem d_S_handOver_6 : decode c_S_handOver 6 = .ok (.invokevirtual 61, 3) := by decide +kernel
theorem d_S_handOver_9 : decode c_S_handOver 9 = .ok (.istore_n 2, 1) := by decide +kernel
theorem d_S_handOver_10 : decode c_S_handOver 10 = .ok (.iload_n 2, 1) := by decide +kernel
theorem d_S_handOver_11 : decode c_S_handOver 11 = .ok (.iconst 4, 1) := by decide +kernel
theorem d_S_handOver_12 : decode c_S_handOver 12 = .ok (.if_icmp .ne 14, 3) := by decide +kernel
theorem d_S_handOver_15 : decode c_S_handOver 15 = .ok (.aload_n 0, 1) := by decide +kernel
theorem d_S_handOver_16 : decode c_S_handOver 16 = .ok (.getfield 21, 3) := by decide +kernel
theorem d_S_handOver_19 : decode c_S_handOver 19 = .ok (.iload_n 1, 1) := by decide +kernel
theorem d_S_handOver_20 : decode c_S_handOver 20 = .ok (.invokevirtual 115, 3) := by decide +kernel
theorem d_S_handOver_23 : decode c_S_handOver 23 = .ok (.goto 13, 3) := by decide +kernel
theorem d_S_handOver_26 : decode c_S_handOver 26 = .ok (.aload_n 0, 1) := by decide +kernel
theorem d_S_handOver_27 : decode c_S_handOver 27 = .ok (.getfield 27, 3) := by decide +kernel
theorem d_S_handOver_30 : decode c_S_handOver 30 = .ok (.iload_n 2, 1) := by decide +kernel
theorem d_S_handOver_31 : decode c_S_handOver 31 = .ok (.aaload, 1) := by decide +kernel
theorem d_S_handOver_32 : decode c_S_handOver 32 = .ok (.iload_n 1, 1) := by decide +kernel
theorem d_S_handOver_33 : decode c_S_handOver 33 = .ok (.invokevirtual 118, 3) := by decide +kernel
theorem d_S_handOver_36 : decode c_S_handOver 36 = .ok (.aload_n 0, 1) := by decide +kernel
theorem d_S_handOver_37 : decode c_S_handOver 37 = .ok (.getfield 10, 3) := by decide +kernel
theorem d_S_handOver_40 : decode c_S_handOver 40 = .ok (.iload_n 1, 1) := by decide +kernel
theorem d_S_handOver_41 : decode c_S_handOver 41 = .ok (.invokevirtual 119, 3) := by decide +kernel
theorem d_S_handOver_44 : decode c_S_handOver 44 = .ok (.return_, 1) := by decide +kernel
theorem d_A_init_0 : decode c_A_init 0 = .ok (.aload_n 0, 1) := by decide +kernel
theorem d_A_init_1 : decode c_A_init 1 = .ok (.invokespecial 3, 3) := by decide +kernel
theorem d_A_init_4 : decode c_A_init 4 = .ok (.aload_n 0, 1) := by decide +kernel
theorem d_A_init_5 : decode c_A_init 5 = .ok (.bipush 7, 2) := by decide +kernel
theorem d_A_init_7 : decode c_A_init 7 = .ok (.bipush 64, 2) := by decide +kernel
theorem d_A_init_9 : decode c_A_init 9 = .ok (.multianewarray 11 2, 4) := by decide +kernel
theorem d_A_init_13 : decode c_A_init 13 = .ok (.putfield 13, 3) := by decide +kernel
theorem d_A_init_16 : decode c_A_init 16 = .ok (.aload_n 0, 1) := by decide +kernel
theorem d_A_init_17 : decode c_A_init 17 = .ok (.iconst 4, 1) := by decide +kernel
theorem d_A_init_18 : decode c_A_init 18 = .ok (.iconst 4, 1) := by decide +kernel
theorem d_A_init_19 : decode c_A_init 19 = .ok (.multianewarray 11 2, 4) := by decide +kernel
theorem d_A_init_23 : decode c_A_init 23 = .ok (.putfield 16, 3) := by decide +kernel
theorem d_A_init_26 : decode c_A_init 26 = .ok (.aload_n 0, 1) := by decide +kernel
theorem d_A_init_27 : decode c_A_init 27 = .ok (.iconst 0, 1) := by decide +kernel
theorem d_A_init_28 : decode c_A_init 28 = .ok (.putfield 19, 3) := by decide +kernel
theorem d_A_init_31 : decode c_A_init 31 = .ok (.return_, 1) := by decide +kernel
theorem d_A_has_0 : decode c_A_has 0 = .ok (.iload_n 1, 1) := by decide +kernel
theorem d_A_has_1 : decode c_A_has 1 = .ok (.ifCond .lt 15, 3) := by decide +kernel
theorem d_A_has_4 : decode c_A_has 4 = .ok (.iload_n 1, 1) := by decide +kernel
theorem d_A_has_5 : decode c_A_has 5 = .ok (.aload_n 0, 1) := by decide +kernel
theorem d_A_has_6 : decode c_A_has 6 = .ok (.getfield 19, 3) := by decide +kernel
theorem d_A_has_9 : decode c_A_has 9 = .ok (.if_icmp .ge 7, 3) := by decide +kernel
theorem d_A_has_12 : decode c_A_has 12 = .ok (.iconst 1, 1) := by decide +kernel
theorem d_A_has_13 : decode c_A_has 13 = .ok (.goto 4, 3) := by decide +kernel
theorem d_A_has_16 : decode c_A_has 16 = .ok (.iconst 0, 1) := by decide +kernel
theorem d_A_has_17 : decode c_A_has 17 = .ok (.ireturn, 1) := by decide +kernel
theorem d_A_part_0 : decode c_A_part 0 = .ok (.aload_n 0, 1) := by decide +kernel
theorem d_A_part_1 : decode c_A_part 1 = .ok (.getfield 13, 3) := by decide +kernel
theorem d_A_part_4 : decode c_A_part 4 = .ok (.iload_n 2, 1) := by decide +kernel
theorem d_A_part_5 : decode c_A_part 5 = .ok (.aaload, 1) := by decide +kernel
theorem d_A_part_6 : decode c_A_part 6 = .ok (.iload_n 1, 1) := by decide +kernel
theorem d_A_part_7 : decode c_A_part 7 = .ok (.iaload, 1) := by decide +kernel
theorem d_A_part_8 : decode c_A_part 8 = .ok (.ireturn, 1) := by decide +kernel
theorem d_A_send_0 : decode c_A_send 0 = .ok (.aload_n 0, 1) := by decide +kernel
theorem d_A_send_1 : decode c_A_send 1 = .ok (.getfield 19, 3) := by decide +kernel
theorem d_A_send_4 : decode c_A_send 4 = .ok (.bipush 64, 2) := by decide +kernel
theorem d_A_send_6 : decode c_A_send 6 = .ok (.if_icmp .lt 4, 3) := by decide +kernel
theorem d_A_send_9 : decode c_A_send 9 = .ok (.return_, 1) := by decide +kernel
theorem d_A_send_10 : decode c_A_send 10 = .ok (.aload_n 0, 1) := by decide +kernel
theorem d_A_send_11 : decode c_A_send 11 = .ok (.getfield 13, 3) := by decide +kernel
theorem d_A_send_14 : decode c_A_send 14 = .ok (.iconst 0, 1) := by decide +kernel
theorem d_A_send_15 : decode c_A_send 15 = .ok (.aaload, 1) := by decide +kernel
theorem d_A_send_16 : decode c_A_send 16 = .ok (.aload_n 0, 1) := by decide +kernel
theorem d_A_send_17 : decode c_A_send 17 = .ok (.getfield 19, 3) := by decide +kernel
theorem d_A_send_20 : decode c_A_send 20 = .ok (.iload_n 1, 1) := by decide +kernel
theorem d_A_send_21 : decode c_A_send 21 = .ok (.iastore, 1) := by decide +kernel
theorem d_A_send_22 : decode c_A_send 22 = .ok (.aload_n 0, 1) := by decide +kernel
theorem d_A_send_23 : decode c_A_send 23 = .ok (.getfield 13, 3) := by decide +kernel
theorem d_A_send_26 : decode c_A_send 26 = .ok (.iconst 1, 1) := by decide +kernel
theorem d_A_send_27 : decode c_A_send 27 = .ok (.aaload, 1) := by decide +kernel
theorem d_A_send_28 : decode c_A_send 28 = .ok (.aload_n 0, 1) := by decide +kernel
theorem d_A_send_29 : decode c_A_send 29 = .ok (.getfield 19, 3) := by decide +kernel
theorem d_A_send_32 : decode c_A_send 32 = .ok (.iload_n 2, 1) := by decide +kernel
theorem d_A_send_33 : decode c_A_send 33 = .ok (.iastore, 1) := by decide +kernel
theorem d_A_send_34 : decode c_A_send 34 = .ok (.aload_n 0, 1) := by decide +kernel
theorem d_A_send_35 : decode c_A_send 35 = .ok (.getfield 13, 3) := by decide +kernel
theorem d_A_send_38 : decode c_A_send 38 = .ok (.iconst 2, 1) := by decide +kernel
theorem d_A_send_39 : decode c_A_send 39 = .ok (.aaload, 1) := by decide +kernel
theorem d_A_send_40 : decode c_A_send 40 = .ok (.aload_n 0, 1) := by decide +kernel
theorem d_A_send_41 : decode c_A_send 41 = .ok (.getfield 19, 3) := by decide +kernel
theorem d_A_send_44 : decode c_A_send 44 = .ok (.iload_n 3, 1) := by decide +kernel
theorem d_A_send_45 : decode c_A_send 45 = .ok (.iastore, 1) := by decide +kernel
theorem d_A_send_46 : decode c_A_send 46 = .ok (.aload_n 0, 1) := by decide +kernel
theorem d_A_send_47 : decode c_A_send 47 = .ok (.getfield 13, 3) := by decide +kernel
theorem d_A_send_50 : decode c_A_send 50 = .ok (.iconst 3, 1) := by decide +kernel
theorem d_A_send_51 : decode c_A_send 51 = .ok (.aaload, 1) := by decide +kernel
theorem d_A_send_52 : decode c_A_send 52 = .ok (.aload_n 0, 1) := by decide +kernel
theorem d_A_send_53 : decode c_A_send 53 = .ok (.getfield 19, 3) := by decide +kernel
theorem d_A_send_56 : decode c_A_send 56 = .ok (.iload 4, 2) := by decide +kernel
theorem d_A_send_58 : decode c_A_send 58 = .ok (.iastore, 1) := by decide +kernel
theorem d_A_send_59 : decode c_A_send 59 = .ok (.aload_n 0, 1) := by decide +kernel
theorem d_A_send_60 : decode c_A_send 60 = .ok (.getfield 13, 3) := by decide +kernel
theorem d_A_send_63 : decode c_A_send 63 = .ok (.iconst 4, 1) := by decide +kernel
theorem d_A_send_64 : decode c_A_send 64 = .ok (.aaload, 1) := by decide +kernel
theorem d_A_send_65 : decode c_A_send 65 = .ok (.aload_n 0, 1) := by decide +kernel
theorem d_A_send_66 : decode c_A_send 66 = .ok (.getfield 19, 3) := by decide +kernel
theorem d_A_send_69 : decode c_A_send 69 = .ok (.iload 5, 2) := by decide +kernel
theorem d_A_send_71 : decode c_A_send 71 = .ok (.iastore, 1) := by decide +kernel
theorem d_A_send_72 : decode c_A_send 72 = .ok (.aload_n 0, 1) := by decide +kernel
theorem d_A_send_73 : decode c_A_send 73 = .ok (.getfield 13, 3) := by decide +kernel
theorem d_A_send_76 : decode c_A_send 76 = .ok (.iconst 5, 1) := by decide +kernel
theorem d_A_send_77 : decode c_A_send 77 = .ok (.aaload, 1) := by decide +kernel
theorem d_A_send_78 : decode c_A_send 78 = .ok (.aload_n 0, 1) := by decide +kernel
theorem d_A_send_79 : decode c_A_send 79 = .ok (.getfield 19, 3) := by decide +kernel
theorem d_A_send_82 : decode c_A_send 82 = .ok (.iload 6, 2) := by decide +kernel
theorem d_A_send_84 : decode c_A_send 84 = .ok (.iastore, 1) := by decide +kernel
theorem d_A_send_85 : decode c_A_send 85 = .ok (.aload_n 0, 1) := by decide +kernel
theorem d_A_send_86 : decode c_A_send 86 = .ok (.getfield 13, 3) := by decide +kernel
theorem d_A_send_89 : decode c_A_send 89 = .ok (.bipush 6, 2) := by decide +kernel
theorem d_A_send_91 : decode c_A_send 91 = .ok (.aaload, 1) := by decide +kernel
theorem d_A_send_92 : decode c_A_send 92 = .ok (.aload_n 0, 1) := by decide +kernel
theorem d_A_send_93 : decode c_A_send 93 = .ok (.getfield 19, 3) := by decide +kernel
theorem d_A_send_96 : decode c_A_send 96 = .ok (.iload 7, 2) := by decide +kernel
theorem d_A_send_98 : decode c_A_send 98 = .ok (.iastore, 1) := by decide +kernel
theorem d_A_send_99 : decode c_A_send 99 = .ok (.aload_n 0, 1) := by decide +kernel
theorem d_A_send_100 : decode c_A_send 100 = .ok (.dup, 1) := by decide +kernel
theorem d_A_send_101 : decode c_A_send 101 = .ok (.getfield 19, 3) := by decide +kernel
theorem d_A_send_104 : decode c_A_send 104 = .ok (.iconst 1, 1) := by decide +kernel
theorem d_A_send_105 : decode c_A_send 105 = .ok (.iadd, 1) := by decide +kernel
theorem d_A_send_106 : decode c_A_send 106 = .ok (.putfield 19, 3) := by decide +kernel
theorem d_A_send_109 : decode c_A_send 109 = .ok (.aload_n 0, 1) := by decide +kernel
theorem d_A_send_110 : decode c_A_send 110 = .ok (.getfield 16, 3) := by decide +kernel
theorem d_A_send_113 : decode c_A_send 113 = .ok (.iload 5, 2) := by decide +kernel
theorem d_A_send_115 : decode c_A_send 115 = .ok (.aaload, 1) := by decide +kernel
theorem d_A_send_116 : decode c_A_send 116 = .ok (.iload_n 2, 1) := by decide +kernel
theorem d_A_send_117 : decode c_A_send 117 = .ok (.iload_n 1, 1) := by decide +kernel
theorem d_A_send_118 : decode c_A_send 118 = .ok (.iconst 4, 1) := by decide +kernel
theorem d_A_send_119 : decode c_A_send 119 = .ok (.if_icmp .gt 7, 3) := by decide +kernel
theorem d_A_send_122 : decode c_A_send 122 = .ok (.iconst 1, 1) := by decide +kernel
theorem d_A_send_123 : decode c_A_send 123 = .ok (.goto 14, 3) := by decide +kernel
theorem d_A_send_126 : decode c_A_send 126 = .ok (.aload_n 0, 1) := by decide +kernel
theorem d_A_send_127 : decode c_A_send 127 = .ok (.getfield 16, 3) := by decide +kernel
theorem d_A_send_130 : decode c_A_send 130 = .ok (.iload 5, 2) := by decide +kernel
theorem d_A_send_132 : decode c_A_send 132 = .ok (.aaload, 1) := by decide +kernel
theorem d_A_send_133 : decode c_A_send 133 = .ok (.iload_n 2, 1) := by decide +kernel
theorem d_A_send_134 : decode c_A_send 134 = .ok (.iaload, 1) := by decide +kernel
theorem d_A_send_135 : decode c_A_send 135 = .ok (.iconst 1, 1) := by decide +kernel
theorem d_A_send_136 : decode c_A_send 136 = .ok (.iadd, 1) := by decide +kernel
theorem d_A_send_137 : decode c_A_send 137 = .ok (.iastore, 1) := by decide +kernel
theorem d_A_send_138 : decode c_A_send 138 = .ok (.return_, 1) := by decide +kernel
theorem d_A_remove_0 : decode c_A_remove 0 = .ok (.aload_n 0, 1) := by decide +kernel
theorem d_A_remove_1 : decode c_A_remove 1 = .ok (.dup, 1) := by decide +kernel
theorem d_A_remove_2 : decode c_A_remove 2 = .ok (.getfield 19, 3) := by decide +kernel
theorem d_A_remove_5 : decode c_A_remove 5 = .ok (.iconst 1, 1) := by decide +kernel
theorem d_A_remove_6 : decode c_A_remove 6 = .ok (.isub, 1) := by decide +kernel
theorem d_A_remove_7 : decode c_A_remove 7 = .ok (.putfield 19, 3) := by decide +kernel
theorem d_A_remove_10 : decode c_A_remove 10 = .ok (.iconst 0, 1) := by decide +kernel
theorem d_A_remove_11 : decode c_A_remove 11 = .ok (.istore_n 2, 1) := by decide +kernel
theorem d_A_remove_12 : decode c_A_remove 12 = .ok (.iload_n 2, 1) := by decide +kernel
theorem d_A_remove_13 : decode c_A_remove 13 = .ok (.bipush 7, 2) := by decide +kernel
theorem d_A_remove_15 : decode c_A_remove 15 = .ok (.if_icmp .ge 43, 3) := by decide +kernel
theorem d_A_remove_18 : decode c_A_remove 18 = .ok (.iload_n 1, 1) := by decide +kernel
theorem d_A_remove_19 : decode c_A_remove 19 = .ok (.istore_n 3, 1) := by decide +kernel
theorem d_A_remove_20 : decode c_A_remove 20 = .ok (.iload_n 3, 1) := by decide +kernel
theorem d_A_remove_21 : decode c_A_remove 21 = .ok (.aload_n 0, 1) := by decide +kernel
theorem d_A_remove_22 : decode c_A_remove 22 = .ok (.getfield 19, 3) := by decide +kernel
theorem d_A_remove_25 : decode c_A_remove 25 = .ok (.if_icmp .ge 27, 3) := by decide +kernel
theorem d_A_remove_28 : decode c_A_remove 28 = .ok (.aload_n 0, 1) := by decide +kernel
theorem d_A_remove_29 : decode c_A_remove 29 = .ok (.getfield 13, 3) := by decide +kernel
theorem d_A_remove_32 : decode c_A_remove 32 = .ok (.iload_n 2, 1) := by decide +kernel
theorem d_A_remove_33 : decode c_A_remove 33 = .ok (.aaload, 1) := by decide +kernel
theorem d_A_remove_34 : decode c_A_remove 34 = .ok (.iload_n 3, 1) := by decide +kernel
theorem d_A_remove_35 : decode c_A_remove 35 = .ok (.aload_n 0, 1) := by decide +kernel
theorem d_A_remove_36 : decode c_A_remove 36 = .ok (.getfield 13, 3) := by decide +kernel
theorem d_A_remove_39 : decode c_A_remove 39 = .ok (.iload_n 2, 1) := by decide +kernel
theorem d_A_remove_40 : decode c_A_remove 40 = .ok (.aaload, 1) := by decide +kernel
theorem d_A_remove_41 : decode c_A_remove 41 = .ok (.iload_n 3, 1) := by decide +kernel
theorem d_A_remove_42 : decode c_A_remove 42 = .ok (.iconst 1, 1) := by decide +kernel
theorem d_A_remove_43 : decode c_A_remove 43 = .ok (.iadd, 1) := by decide +kernel
theorem d_A_remove_44 : decode c_A_remove 44 = .ok (.iaload, 1) := by decide +kernel
theorem d_A_remove_45 : decode c_A_remove 45 = .ok (.iastore, 1) := by decide +kernel
theorem d_A_remove_46 : decode c_A_remove 46 = .ok (.iinc 3 1, 3) := by decide +kernel
theorem d_A_remove_49 : decode c_A_remove 49 = .ok (.goto (-29), 3) := by decide +kernel
theorem d_A_remove_52 : decode c_A_remove 52 = .ok (.iinc 2 1, 3) := by decide +kernel
theorem d_A_remove_55 : decode c_A_remove 55 = .ok (.goto (-43), 3) := by decide +kernel
theorem d_A_remove_58 : decode c_A_remove 58 = .ok (.return_, 1) := by decide +kernel
theorem d_A_keepsBack_0 : decode c_A_keepsBack 0 = .ok (.aload_n 0, 1) := by decide +kernel
theorem d_A_keepsBack_1 : decode c_A_keepsBack 1 = .ok (.iload_n 1, 1) := by decide +kernel
theorem d_A_keepsBack_2 : decode c_A_keepsBack 2 = .ok (.invokevirtual 23, 3) := by decide +kernel
theorem d_A_keepsBack_5 : decode c_A_keepsBack 5 = .ok (.ifCond .ne 5, 3) := by decide +kernel
theorem d_A_keepsBack_8 : decode c_A_keepsBack 8 = .ok (.iconst 0, 1) := by decide +kernel
theorem d_A_keepsBack_9 : decode c_A_keepsBack 9 = .ok (.ireturn, 1) := by decide +kernel
theorem d_A_keepsBack_10 : decode c_A_keepsBack 10 = .ok (.iconst 0, 1) := by decide +kernel
theorem d_A_keepsBack_11 : decode c_A_keepsBack 11 = .ok (.istore_n 2, 1) := by decide +kernel
theorem d_A_keepsBack_12 : decode c_A_keepsBack 12 = .ok (.iload_n 2, 1) := by decide +kernel
theorem d_A_keepsBack_13 : decode c_A_keepsBack 13 = .ok (.iload_n 1, 1) := by decide +kernel
theorem d_A_keepsBack_14 : decode c_A_keepsBack 14 = .ok (.if_icmp .ge 57, 3) := by decide +kernel
theorem d_A_keepsBack_17 : decode c_A_keepsBack 17 = .ok (.aload_n 0, 1) := by decide +kernel
theorem d_A_keepsBack_18 : decode c_A_keepsBack 18 = .ok (.iload_n 2, 1) := by decide +kernel
theorem d_A_keepsBack_19 : decode c_A_keepsBack 19 = .ok (.invokevirtual 23, 3) := by decide +kernel
theorem d_A_keepsBack_22 : decode c_A_keepsBack 22 = .ok (.ifCond .eq 43, 3) := by decide +kernel
theorem d_A_keepsBack_25 : decode c_A_keepsBack 25 = .ok (.aload_n 0, 1) := by decide +kernel
theorem d_A_keepsBack_26 : decode c_A_keepsBack 26 = .ok (.getfield 13, 3) := by decide +kernel
theorem d_A_keepsBack_29 : decode c_A_keepsBack 29 = .ok (.iconst 1, 1) := by decide +kernel
theorem d_A_keepsBack_30 : decode c_A_keepsBack 30 = .ok (.aaload, 1) := by decide +kernel
theorem d_A_keepsBack_31 : decode c_A_keepsBack 31 = .ok (.iload_n 2, 1) := by decide +kernel
theorem d_A_keepsBack_32 : decode c_A_keepsBack 32 = .ok (.iaload, 1) := by decide +kernel
theorem d_A_keepsBack_33 : decode c_A_keepsBack 33 = .ok (.aload_n 0, 1) := by decide +kernel
theorem d_A_keepsBack_34 : decode c_A_keepsBack 34 = .ok (.getfield 13, 3) := by decide +kernel
theorem d_A_keepsBack_37 : decode c_A_keepsBack 37 = .ok (.iconst 1, 1) := by decide +kernel
theorem d_A_keepsBack_38 : decode c_A_keepsBack 38 = .ok (.aaload, 1) := by decide +kernel
theorem d_A_keepsBack_39 : decode c_A_keepsBack 39 = .ok (.iload_n 1, 1) := by decide +kernel
theorem d_A_keepsBack_40 : decode c_A_keepsBack 40 = .ok (.iaload, 1) := by decide +kernel
theorem d_A_keepsBack_41 : decode c_A_keepsBack 41 = .ok (.if_icmp .ne 24, 3) := by decide +kernel
theorem d_A_keepsBack_44 : decode c_A_keepsBack 44 = .ok (.aload_n 0, 1) := by decide +kernel
theorem d_A_keepsBack_45 : decode c_A_keepsBack 45 = .ok (.getfield 13, 3) := by decide +kernel
theorem d_A_keepsBack_48 : decode c_A_keepsBack 48 = .ok (.iconst 3, 1) := by decide +kernel
theorem d_A_keepsBack_49 : decode c_A_keepsBack 49 = .ok (.aaload, 1) := by decide +kernel
theorem d_A_keepsBack_50 : decode c_A_keepsBack 50 = .ok (.iload_n 2, 1) := by decide +kernel
theorem d_A_keepsBack_51 : decode c_A_keepsBack 51 = .ok (.iaload, 1) := by decide +kernel
theorem d_A_keepsBack_52 : decode c_A_keepsBack 52 = .ok (.aload_n 0, 1) := by decide +kernel
theorem d_A_keepsBack_53 : decode c_A_keepsBack 53 = .ok (.getfield 13, 3) := by decide +kernel
theorem d_A_keepsBack_56 : decode c_A_keepsBack 56 = .ok (.iconst 3, 1) := by decide +kernel
theorem d_A_keepsBack_57 : decode c_A_keepsBack 57 = .ok (.aaload, 1) := by decide +kernel
theorem d_A_keepsBack_58 : decode c_A_keepsBack 58 = .ok (.iload_n 1, 1) := by decide +kernel
theorem d_A_keepsBack_59 : decode c_A_keepsBack 59 = .ok (.iaload, 1) := by decide +kernel
theorem d_A_keepsBack_60 : decode c_A_keepsBack 60 = .ok (.if_icmp .ne 5, 3) := by decide +kernel
theorem d_A_keepsBack_63 : decode c_A_keepsBack 63 = .ok (.iconst 1, 1) := by decide +kernel
theorem d_A_keepsBack_64 : decode c_A_keepsBack 64 = .ok (.ireturn, 1) := by decide +kernel
theorem d_A_keepsBack_65 : decode c_A_keepsBack 65 = .ok (.iinc 2 1, 3) := by decide +kernel
theorem d_A_keepsBack_68 : decode c_A_keepsBack 68 = .ok (.goto (-56), 3) := by decide +kernel
theorem d_A_keepsBack_71 : decode c_A_keepsBack 71 = .ok (.iconst 0, 1) := by decide +kernel
theorem d_A_keepsBack_72 : decode c_A_keepsBack 72 = .ok (.ireturn, 1) := by decide +kernel
theorem d_A_isOrdered_0 : decode c_A_isOrdered 0 = .ok (.aload_n 0, 1) := by decide +kernel
theorem d_A_isOrdered_1 : decode c_A_isOrdered 1 = .ok (.getfield 13, 3) := by decide +kernel
theorem d_A_isOrdered_4 : decode c_A_isOrdered 4 = .ok (.iconst 0, 1) := by decide +kernel
theorem d_A_isOrdered_5 : decode c_A_isOrdered 5 = .ok (.aaload, 1) := by decide +kernel
theorem d_A_isOrdered_6 : decode c_A_isOrdered 6 = .ok (.iload_n 1, 1) := by decide +kernel
theorem d_A_isOrdered_7 : decode c_A_isOrdered 7 = .ok (.iaload, 1) := by decide +kernel
theorem d_A_isOrdered_8 : decode c_A_isOrdered 8 = .ok (.iconst 5, 1) := by decide +kernel
theorem d_A_isOrdered_9 : decode c_A_isOrdered 9 = .ok (.if_icmp .lt 20, 3) := by decide +kernel
theorem d_A_isOrdered_12 : decode c_A_isOrdered 12 = .ok (.aload_n 0, 1) := by decide +kernel
theorem d_A_isOrdered_13 : decode c_A_isOrdered 13 = .ok (.getfield 13, 3) := by decide +kernel
theorem d_A_isOrdered_16 : decode c_A_isOrdered 16 = .ok (.iconst 0, 1) := by decide +kernel
theorem d_A_isOrdered_17 : decode c_A_isOrdered 17 = .ok (.aaload, 1) := by decide +kernel
theorem d_A_isOrdered_18 : decode c_A_isOrdered 18 = .ok (.iload_n 1, 1) := by decide +kernel
theorem d_A_isOrdered_19 : decode c_A_isOrdered 19 = .ok (.iaload, 1) := by decide +kernel
theorem d_A_isOrdered_20 : decode c_A_isOrdered 20 = .ok (.bipush 8, 2) := by decide +kernel
theorem d_A_isOrdered_22 : decode c_A_isOrdered 22 = .ok (.if_icmp .gt 7, 3) := by decide +kernel
theorem d_A_isOrdered_25 : decode c_A_isOrdered 25 = .ok (.iconst 1, 1) := by decide +kernel
theorem d_A_isOrdered_26 : decode c_A_isOrdered 26 = .ok (.goto 4, 3) := by decide +kernel
theorem d_A_isOrdered_29 : decode c_A_isOrdered 29 = .ok (.iconst 0, 1) := by decide +kernel
theorem d_A_isOrdered_30 : decode c_A_isOrdered 30 = .ok (.ireturn, 1) := by decide +kernel
theorem d_J_bitCount_0 : decode c_J_bitCount 0 = .ok (.iload_n 0, 1) := by decide +kernel
theorem d_J_bitCount_1 : decode c_J_bitCount 1 = .ok (.iload_n 0, 1) := by decide +kernel
theorem d_J_bitCount_2 : decode c_J_bitCount 2 = .ok (.iconst 1, 1) := by decide +kernel
theorem d_J_bitCount_3 : decode c_J_bitCount 3 = .ok (.iushr, 1) := by decide +kernel
theorem d_J_bitCount_4 : decode c_J_bitCount 4 = .ok (.ldc_w 265, 3) := by decide +kernel
theorem d_J_bitCount_7 : decode c_J_bitCount 7 = .ok (.iand, 1) := by decide +kernel
theorem d_J_bitCount_8 : decode c_J_bitCount 8 = .ok (.isub, 1) := by decide +kernel
theorem d_J_bitCount_9 : decode c_J_bitCount 9 = .ok (.istore_n 0, 1) := by decide +kernel
theorem d_J_bitCount_10 : decode c_J_bitCount 10 = .ok (.iload_n 0, 1) := by decide +kernel
theorem d_J_bitCount_11 : decode c_J_bitCount 11 = .ok (.ldc_w 266, 3) := by decide +kernel
theorem d_J_bitCount_14 : decode c_J_bitCount 14 = .ok (.iand, 1) := by decide +kernel
theorem d_J_bitCount_15 : decode c_J_bitCount 15 = .ok (.iload_n 0, 1) := by decide +kernel
theorem d_J_bitCount_16 : decode c_J_bitCount 16 = .ok (.iconst 2, 1) := by decide +kernel
theorem d_J_bitCount_17 : decode c_J_bitCount 17 = .ok (.iushr, 1) := by decide +kernel
theorem d_J_bitCount_18 : decode c_J_bitCount 18 = .ok (.ldc_w 266, 3) := by decide +kernel
theorem d_J_bitCount_21 : decode c_J_bitCount 21 = .ok (.iand, 1) := by decide +kernel
theorem d_J_bitCount_22 : decode c_J_bitCount 22 = .ok (.iadd, 1) := by decide +kernel
theorem d_J_bitCount_23 : decode c_J_bitCount 23 = .ok (.istore_n 0, 1) := by decide +kernel
theorem d_J_bitCount_24 : decode c_J_bitCount 24 = .ok (.iload_n 0, 1) := by decide +kernel
theorem d_J_bitCount_25 : decode c_J_bitCount 25 = .ok (.iload_n 0, 1) := by decide +kernel
theorem d_J_bitCount_26 : decode c_J_bitCount 26 = .ok (.iconst 4, 1) := by decide +kernel
theorem d_J_bitCount_27 : decode c_J_bitCount 27 = .ok (.iushr, 1) := by decide +kernel
theorem d_J_bitCount_28 : decode c_J_bitCount 28 = .ok (.iadd, 1) := by decide +kernel
theorem d_J_bitCount_29 : decode c_J_bitCount 29 = .ok (.ldc_w 267, 3) := by decide +kernel
theorem d_J_bitCount_32 : decode c_J_bitCount 32 = .ok (.iand, 1) := by decide +kernel
theorem d_J_bitCount_33 : decode c_J_bitCount 33 = .ok (.istore_n 0, 1) := by decide +kernel
theorem d_J_bitCount_34 : decode c_J_bitCount 34 = .ok (.iload_n 0, 1) := by decide +kernel
theorem d_J_bitCount_35 : decode c_J_bitCount 35 = .ok (.iload_n 0, 1) := by decide +kernel
theorem d_J_bitCount_36 : decode c_J_bitCount 36 = .ok (.bipush 8, 2) := by decide +kernel
theorem d_J_bitCount_38 : decode c_J_bitCount 38 = .ok (.iushr, 1) := by decide +kernel
theorem d_J_bitCount_39 : decode c_J_bitCount 39 = .ok (.iadd, 1) := by decide +kernel
theorem d_J_bitCount_40 : decode c_J_bitCount 40 = .ok (.istore_n 0, 1) := by decide +kernel
theorem d_J_bitCount_41 : decode c_J_bitCount 41 = .ok (.iload_n 0, 1) := by decide +kernel
theorem d_J_bitCount_42 : decode c_J_bitCount 42 = .ok (.iload_n 0, 1) := by decide +kernel
theorem d_J_bitCount_43 : decode c_J_bitCount 43 = .ok (.bipush 16, 2) := by decide +kernel
theorem d_J_bitCount_45 : decode c_J_bitCount 45 = .ok (.iushr, 1) := by decide +kernel
theorem d_J_bitCount_46 : decode c_J_bitCount 46 = .ok (.iadd, 1) := by decide +kernel
theorem d_J_bitCount_47 : decode c_J_bitCount 47 = .ok (.istore_n 0, 1) := by decide +kernel
theorem d_J_bitCount_48 : decode c_J_bitCount 48 = .ok (.iload_n 0, 1) := by decide +kernel
theorem d_J_bitCount_49 : decode c_J_bitCount 49 = .ok (.bipush 63, 2) := by decide +kernel
theorem d_J_bitCount_51 : decode c_J_bitCount 51 = .ok (.iand, 1) := by decide +kernel
theorem d_J_bitCount_52 : decode c_J_bitCount 52 = .ok (.ireturn, 1) := by decide +kernel
end
section
theorem d_C_init_0 : decode c_C_init 0 = .ok (.aload_n 0, 1) := by decide +kernel
theorem d_C_init_1 : decode c_C_init 1 = .ok (.invokespecial 3, 3) := by decide +kernel
theorem d_C_init_4 : decode c_C_init 4 = .ok (.aload_n 0, 1) := by decide +kernel
theorem d_C_init_5 : decode c_C_init 5 = .ok (.iconst 4, 1) := by decide +kernel
theorem d_C_init_6 : decode c_C_init 6 = .ok (.newarray .int, 2) := by decide +kernel
theorem d_C_init_8 : decode c_C_init 8 = .ok (.putfield 9, 3) := by decide +kernel
theorem d_C_init_11 : decode c_C_init 11 = .ok (.aload_n 0, 1) := by decide +kernel
theorem d_C_init_12 : decode c_C_init 12 = .ok (.iconst 4, 1) := by decide +kernel
theorem d_C_init_13 : decode c_C_init 13 = .ok (.newarray .int, 2) := by decide +kernel
theorem d_C_init_15 : decode c_C_init 15 = .ok (.putfield 15, 3) := by decide +kernel
theorem d_C_init_18 : decode c_C_init 18 = .ok (.aload_n 0, 1) := by decide +kernel
theorem d_C_init_19 : decode c_C_init 19 = .ok (.iconst 4, 1) := by decide +kernel
theorem d_C_init_20 : decode c_C_init 20 = .ok (.newarray .int, 2) := by decide +kernel
theorem d_C_init_22 : decode c_C_init 22 = .ok (.putfield 18, 3) := by decide +kernel
theorem d_C_init_25 : decode c_C_init 25 = .ok (.aload_n 0, 1) := by decide +kernel
theorem d_C_init_26 : decode c_C_init 26 = .ok (.iconst 0, 1) := by decide +kernel
theorem d_C_init_27 : decode c_C_init 27 = .ok (.putfield 21, 3) := by decide +kernel
theorem d_C_init_30 : decode c_C_init 30 = .ok (.aload_n 0, 1) := by decide +kernel
theorem d_C_init_31 : decode c_C_init 31 = .ok (.iconst 0, 1) := by decide +kernel
theorem d_C_init_32 : decode c_C_init 32 = .ok (.putfield 25, 3) := by decide +kernel
theorem d_C_init_35 : decode c_C_init 35 = .ok (.aload_n 0, 1) := by decide +kernel
theorem d_C_init_36 : decode c_C_init 36 = .ok (.iconst 0, 1) := by decide +kernel
theorem d_C_init_37 : decode c_C_init 37 = .ok (.putfield 29, 3) := by decide +kernel
theorem d_C_init_40 : decode c_C_init 40 = .ok (.aload_n 0, 1) := by decide +kernel
theorem d_C_init_41 : decode c_C_init 41 = .ok (.iconst 0, 1) := by decide +kernel
theorem d_C_init_42 : decode c_C_init 42 = .ok (.putfield 32, 3) := by decide +kernel
theorem d_C_init_45 : decode c_C_init 45 = .ok (.aload_n 0, 1) := by decide +kernel
theorem d_C_init_46 : decode c_C_init 46 = .ok (.iconst 0, 1) := by decide +kernel
theorem d_C_init_47 : decode c_C_init 47 = .ok (.putfield 35, 3) := by decide +kernel
theorem d_C_init_50 : decode c_C_init 50 = .ok (.aload_n 0, 1) := by decide +kernel
theorem d_C_init_51 : decode c_C_init 51 = .ok (.iload_n 1, 1) := by decide +kernel
theorem d_C_init_52 : decode c_C_init 52 = .ok (.putfield 38, 3) := by decide +kernel
theorem d_C_init_55 : decode c_C_init 55 = .ok (.aload_n 0, 1) := by decide +kernel
theorem d_C_init_56 : decode c_C_init 56 = .ok (.aload_n 2, 1) := by decide +kernel
theorem d_C_init_57 : decode c_C_init 57 = .ok (.putfield 41, 3) := by decide +kernel
theorem d_C_init_60 : decode c_C_init 60 = .ok (.return_, 1) := by decide +kernel
theorem d_C_start_0 : decode c_C_start 0 = .ok (.aload_n 0, 1) := by decide +kernel
theorem d_C_start_1 : decode c_C_start 1 = .ok (.getfield 21, 3) := by decide +kernel
theorem d_C_start_4 : decode c_C_start 4 = .ok (.ifCond .ne 11, 3) := by decide +kernel
theorem d_C_start_7 : decode c_C_start 7 = .ok (.aload_n 0, 1) := by decide +kernel
theorem d_C_start_8 : decode c_C_start 8 = .ok (.iload_n 2, 1) := by decide +kernel
theorem d_C_start_9 : decode c_C_start 9 = .ok (.invokevirtual 45, 3) := by decide +kernel
theorem d_C_start_12 : decode c_C_start 12 = .ok (.ifCond .ne 6, 3) := by decide +kernel
theorem d_C_start_15 : decode c_C_start 15 = .ok (.bipush (-2), 2) := by decide +kernel
theorem d_C_start_17 : decode c_C_start 17 = .ok (.ireturn, 1) := by decide +kernel
theorem d_C_start_18 : decode c_C_start 18 = .ok (.aload_n 0, 1) := by decide +kernel
theorem d_C_start_19 : decode c_C_start 19 = .ok (.iload_n 1, 1) := by decide +kernel
theorem d_C_start_20 : decode c_C_start 20 = .ok (.putfield 25, 3) := by decide +kernel
theorem d_C_start_23 : decode c_C_start 23 = .ok (.aload_n 0, 1) := by decide +kernel
theorem d_C_start_24 : decode c_C_start 24 = .ok (.iload_n 3, 1) := by decide +kernel
theorem d_C_start_25 : decode c_C_start 25 = .ok (.putfield 29, 3) := by decide +kernel
theorem d_C_start_28 : decode c_C_start 28 = .ok (.aload_n 0, 1) := by decide +kernel
theorem d_C_start_29 : decode c_C_start 29 = .ok (.iload_n 2, 1) := by decide +kernel
theorem d_C_start_30 : decode c_C_start 30 = .ok (.invokevirtual 49, 3) := by decide +kernel
theorem d_C_start_33 : decode c_C_start 33 = .ok (.ifCond .eq 10, 3) := by decide +kernel
theorem d_C_start_36 : decode c_C_start 36 = .ok (.aload_n 0, 1) := by decide +kernel
theorem d_C_start_37 : decode c_C_start 37 = .ok (.iload_n 2, 1) := by decide +kernel
theorem d_C_start_38 : decode c_C_start 38 = .ok (.invokevirtual 52, 3) := by decide +kernel
theorem d_C_start_41 : decode c_C_start 41 = .ok (.iconst 1, 1) := by decide +kernel
theorem d_C_start_42 : decode c_C_start 42 = .ok (.ireturn, 1) := by decide +kernel
theorem d_C_start_43 : decode c_C_start 43 = .ok (.aload_n 0, 1) := by decide +kernel
theorem d_C_start_44 : decode c_C_start 44 = .ok (.iload_n 2, 1) := by decide +kernel
theorem d_C_start_45 : decode c_C_start 45 = .ok (.invokevirtual 56, 3) := by decide +kernel
theorem d_C_start_48 : decode c_C_start 48 = .ok (.iconst 0, 1) := by decide +kernel
theorem d_C_start_49 : decode c_C_start 49 = .ok (.ireturn, 1) := by decide +kernel
theorem d_C_giveUp_0 : decode c_C_giveUp 0 = .ok (.aload_n 0, 1) := by decide +kernel
theorem d_C_giveUp_1 : decode c_C_giveUp 1 = .ok (.iload_n 1, 1) := by decide +kernel
theorem d_C_giveUp_2 : decode c_C_giveUp 2 = .ok (.invokevirtual 45, 3) := by decide +kernel
theorem d_C_giveUp_5 : decode c_C_giveUp 5 = .ok (.ifCond .ne 6, 3) := by decide +kernel
theorem d_C_giveUp_8 : decode c_C_giveUp 8 = .ok (.bipush (-2), 2) := by decide +kernel
theorem d_C_giveUp_10 : decode c_C_giveUp 10 = .ok (.ireturn, 1) := by decide +kernel
theorem d_C_giveUp_11 : decode c_C_giveUp 11 = .ok (.aload_n 0, 1) := by decide +kernel
theorem d_C_giveUp_12 : decode c_C_giveUp 12 = .ok (.getfield 9, 3) := by decide +kernel
theorem d_C_giveUp_15 : decode c_C_giveUp 15 = .ok (.iload_n 1, 1) := by decide +kernel
theorem d_C_giveUp_16 : decode c_C_giveUp 16 = .ok (.iaload, 1) := by decide +kernel
theorem d_C_giveUp_17 : decode c_C_giveUp 17 = .ok (.tableswitch 65 1 3 #[27, 38, 49], 27) := by decide +kernel
theorem d_C_giveUp_44 : decode c_C_giveUp 44 = .ok (.aload_n 0, 1) := by decide +kernel
theorem d_C_giveUp_45 : decode c_C_giveUp 45 = .ok (.iconst 2, 1) := by decide +kernel
theorem d_C_giveUp_46 : decode c_C_giveUp 46 = .ok (.iload_n 1, 1) := by decide +kernel
theorem d_C_giveUp_47 : decode c_C_giveUp 47 = .ok (.iconst 0, 1) := by decide +kernel
theorem d_C_giveUp_48 : decode c_C_giveUp 48 = .ok (.bipush 11, 2) := by decide +kernel
theorem d_C_giveUp_50 : decode c_C_giveUp 50 = .ok (.invokevirtual 59, 3) := by decide +kernel
theorem d_C_giveUp_53 : decode c_C_giveUp 53 = .ok (.iconst 1, 1) := by decide +kernel
theorem d_C_giveUp_54 : decode c_C_giveUp 54 = .ok (.ireturn, 1) := by decide +kernel
theorem d_C_giveUp_55 : decode c_C_giveUp 55 = .ok (.aload_n 0, 1) := by decide +kernel
theorem d_C_giveUp_56 : decode c_C_giveUp 56 = .ok (.iconst 3, 1) := by decide +kernel
theorem d_C_giveUp_57 : decode c_C_giveUp 57 = .ok (.iload_n 1, 1) := by decide +kernel
theorem d_C_giveUp_58 : decode c_C_giveUp 58 = .ok (.iconst 0, 1) := by decide +kernel
theorem d_C_giveUp_59 : decode c_C_giveUp 59 = .ok (.bipush 10, 2) := by decide +kernel
theorem d_C_giveUp_61 : decode c_C_giveUp 61 = .ok (.invokevirtual 59, 3) := by decide +kernel
theorem d_C_giveUp_64 : decode c_C_giveUp 64 = .ok (.iconst 1, 1) := by decide +kernel
theorem d_C_giveUp_65 : decode c_C_giveUp 65 = .ok (.ireturn, 1) := by decide +kernel
theorem d_C_giveUp_66 : decode c_C_giveUp 66 = .ok (.aload_n 0, 1) := by decide +kernel
theorem d_C_giveUp_67 : decode c_C_giveUp 67 = .ok (.iconst 4, 1) := by decide +kernel
theorem d_C_giveUp_68 : decode c_C_giveUp 68 = .ok (.iload_n 1, 1) := by decide +kernel
theorem d_C_giveUp_69 : decode c_C_giveUp 69 = .ok (.aload_n 0, 1) := by decide +kernel
theorem d_C_giveUp_70 : decode c_C_giveUp 70 = .ok (.getfield 15, 3) := by decide +kernel
theorem d_C_giveUp_73 : decode c_C_giveUp 73 = .ok (.iload_n 1, 1) := by decide +kernel
theorem d_C_giveUp_74 : decode c_C_giveUp 74 = .ok (.iaload, 1) := by decide +kernel
theorem d_C_giveUp_75 : decode c_C_giveUp 75 = .ok (.bipush 9, 2) := by decide +kernel
theorem d_C_giveUp_77 : decode c_C_giveUp 77 = .ok (.invokevirtual 59, 3) := by decide +kernel
theorem d_C_giveUp_80 : decode c_C_giveUp 80 = .ok (.iconst 1, 1) := by decide +kernel
theorem d_C_giveUp_81 : decode c_C_giveUp 81 = .ok (.ireturn, 1) := by decide +kernel
theorem d_C_giveUp_82 : decode c_C_giveUp 82 = .ok (.iconst 0, 1) := by decide +kernel
theorem d_C_giveUp_83 : decode c_C_giveUp 83 = .ok (.ireturn, 1) := by decide +kernel
theorem d_C_stalls_0 : decode c_C_stalls 0 = .ok (.iload_n 1, 1) := by decide +kernel
theorem d_C_stalls_1 : decode c_C_stalls 1 = .ok (.tableswitch 70 5 7 #[27, 27, 54], 27) := by decide +kernel
theorem d_C_stalls_28 : decode c_C_stalls 28 = .ok (.aload_n 0, 1) := by decide +kernel
theorem d_C_stalls_29 : decode c_C_stalls 29 = .ok (.getfield 9, 3) := by decide +kernel
theorem d_C_stalls_32 : decode c_C_stalls 32 = .ok (.iload_n 2, 1) := by decide +kernel
theorem d_C_stalls_33 : decode c_C_stalls 33 = .ok (.iaload, 1) := by decide +kernel
theorem d_C_stalls_34 : decode c_C_stalls 34 = .ok (.iconst 4, 1) := by decide +kernel
theorem d_C_stalls_35 : decode c_C_stalls 35 = .ok (.if_icmp .lt 18, 3) := by decide +kernel
theorem d_C_stalls_38 : decode c_C_stalls 38 = .ok (.aload_n 0, 1) := by decide +kernel
theorem d_C_stalls_39 : decode c_C_stalls 39 = .ok (.getfield 9, 3) := by decide +kernel
theorem d_C_stalls_42 : decode c_C_stalls 42 = .ok (.iload_n 2, 1) := by decide +kernel
theorem d_C_stalls_43 : decode c_C_stalls 43 = .ok (.iaload, 1) := by decide +kernel
theorem d_C_stalls_44 : decode c_C_stalls 44 = .ok (.bipush 8, 2) := by decide +kernel
theorem d_C_stalls_46 : decode c_C_stalls 46 = .ok (.if_icmp .gt 7, 3) := by decide +kernel
theorem d_C_stalls_49 : decode c_C_stalls 49 = .ok (.iconst 1, 1) := by decide +kernel
theorem d_C_stalls_50 : decode c_C_stalls 50 = .ok (.goto 4, 3) := by decide +kernel
theorem d_C_stalls_53 : decode c_C_stalls 53 = .ok (.iconst 0, 1) := by decide +kernel
theorem d_C_stalls_54 : decode c_C_stalls 54 = .ok (.ireturn, 1) := by decide +kernel
theorem d_C_stalls_55 : decode c_C_stalls 55 = .ok (.aload_n 0, 1) := by decide +kernel
theorem d_C_stalls_56 : decode c_C_stalls 56 = .ok (.getfield 9, 3) := by decide +kernel
theorem d_C_stalls_59 : decode c_C_stalls 59 = .ok (.iload_n 2, 1) := by decide +kernel
theorem d_C_stalls_60 : decode c_C_stalls 60 = .ok (.iaload, 1) := by decide +kernel
theorem d_C_stalls_61 : decode c_C_stalls 61 = .ok (.iconst 4, 1) := by decide +kernel
theorem d_C_stalls_62 : decode c_C_stalls 62 = .ok (.if_icmp .ne 7, 3) := by decide +kernel
theorem d_C_stalls_65 : decode c_C_stalls 65 = .ok (.iconst 1, 1) := by decide +kernel
theorem d_C_stalls_66 : decode c_C_stalls 66 = .ok (.goto 4, 3) := by decide +kernel
theorem d_C_stalls_69 : decode c_C_stalls 69 = .ok (.iconst 0, 1) := by decide +kernel
theorem d_C_stalls_70 : decode c_C_stalls 70 = .ok (.ireturn, 1) := by decide +kernel
theorem d_C_stalls_71 : decode c_C_stalls 71 = .ok (.iconst 0, 1) := by decide +kernel
theorem d_C_stalls_72 : decode c_C_stalls 72 = .ok (.ireturn, 1) := by decide +kernel
theorem d_C_take_0 : decode c_C_take 0 = .ok (.aload_n 0, 1) := by decide +kernel
theorem d_C_take_1 : decode c_C_take 1 = .ok (.getfield 41, 3) := by decide +kernel
theorem d_C_take_4 : decode c_C_take 4 = .ok (.iload_n 1, 1) := by decide +kernel
theorem d_C_take_5 : decode c_C_take 5 = .ok (.iconst 1, 1) := by decide +kernel
theorem d_C_take_6 : decode c_C_take 6 = .ok (.invokevirtual 63, 3) := by decide +kernel
theorem d_C_take_9 : decode c_C_take 9 = .ok (.istore_n 2, 1) := by decide +kernel
theorem d_C_take_10 : decode c_C_take 10 = .ok (.aload_n 0, 1) := by decide +kernel
theorem d_C_take_11 : decode c_C_take 11 = .ok (.getfield 41, 3) := by decide +kernel
theorem d_C_take_14 : decode c_C_take 14 = .ok (.iload_n 1, 1) := by decide +kernel
theorem d_C_take_15 : decode c_C_take 15 = .ok (.iconst 4, 1) := by decide +kernel
theorem d_C_take_16 : decode c_C_take 16 = .ok (.invokevirtual 63, 3) := by decide +kernel
theorem d_C_take_19 : decode c_C_take 19 = .ok (.istore_n 3, 1) := by decide +kernel
theorem d_C_take_20 : decode c_C_take 20 = .ok (.aload_n 0, 1) := by decide +kernel
theorem d_C_take_21 : decode c_C_take 21 = .ok (.getfield 41, 3) := by decide +kernel
theorem d_C_take_24 : decode c_C_take 24 = .ok (.iload_n 1, 1) := by decide +kernel
theorem d_C_take_25 : decode c_C_take 25 = .ok (.iconst 0, 1) := by decide +kernel
theorem d_C_take_26 : decode c_C_take 26 = .ok (.invokevirtual 63, 3) := by decide +kernel
theorem d_C_take_29 : decode c_C_take 29 = .ok (.tableswitch 146 5 11 #[43, 52, 61, 70, 80, 107, 138], 43) := by decide +kernel
theorem d_C_take_72 : decode c_C_take 72 = .ok (.aload_n 0, 1) := by decide +kernel
theorem d_C_take_73 : decode c_C_take 73 = .ok (.iload_n 3, 1) := by decide +kernel
theorem d_C_take_74 : decode c_C_take 74 = .ok (.iload_n 2, 1) := by decide +kernel
theorem d_C_take_75 : decode c_C_take 75 = .ok (.invokevirtual 69, 3) := by decide +kernel
theorem d_C_take_78 : decode c_C_take 78 = .ok (.goto 97, 3) := by decide +kernel
theorem d_C_take_81 : decode c_C_take 81 = .ok (.aload_n 0, 1) := by decide +kernel
theorem d_C_take_82 : decode c_C_take 82 = .ok (.iload_n 3, 1) := by decide +kernel
theorem d_C_take_83 : decode c_C_take 83 = .ok (.iload_n 2, 1) := by decide +kernel
theorem d_C_take_84 : decode c_C_take 84 = .ok (.invokevirtual 73, 3) := by decide +kernel
theorem d_C_take_87 : decode c_C_take 87 = .ok (.goto 88, 3) := by decide +kernel
theorem d_C_take_90 : decode c_C_take 90 = .ok (.aload_n 0, 1) := by decide +kernel
theorem d_C_take_91 : decode c_C_take 91 = .ok (.iload_n 3, 1) := by decide +kernel
theorem d_C_take_92 : decode c_C_take 92 = .ok (.iload_n 2, 1) := by decide +kernel
theorem d_C_take_93 : decode c_C_take 93 = .ok (.invokevirtual 76, 3) := by decide +kernel
theorem d_C_take_96 : decode c_C_take 96 = .ok (.goto 79, 3) := by decide +kernel
theorem d_C_take_99 : decode c_C_take 99 = .ok (.aload_n 0, 1) := by decide +kernel
theorem d_C_take_100 : decode c_C_take 100 = .ok (.getfield 9, 3) := by decide +kernel
theorem d_C_take_103 : decode c_C_take 103 = .ok (.iload_n 2, 1) := by decide +kernel
theorem d_C_take_104 : decode c_C_take 104 = .ok (.iconst 0, 1) := by decide +kernel
theorem d_C_take_105 : decode c_C_take 105 = .ok (.iastore, 1) := by decide +kernel
theorem d_C_take_106 : decode c_C_take 106 = .ok (.goto 69, 3) := by decide +kernel
theorem d_C_take_109 : decode c_C_take 109 = .ok (.aload_n 0, 1) := by decide +kernel
theorem d_C_take_110 : decode c_C_take 110 = .ok (.iload_n 2, 1) := by decide +kernel
theorem d_C_take_111 : decode c_C_take 111 = .ok (.aload_n 0, 1) := by decide +kernel
theorem d_C_take_112 : decode c_C_take 112 = .ok (.getfield 41, 3) := by decide +kernel
theorem d_C_take_115 : decode c_C_take 115 = .ok (.iload_n 1, 1) := by decide +kernel
theorem d_C_take_116 : decode c_C_take 116 = .ok (.iconst 5, 1) := by decide +kernel
theorem d_C_take_117 : decode c_C_take 117 = .ok (.invokevirtual 63, 3) := by decide +kernel
theorem d_C_take_120 : decode c_C_take 120 = .ok (.aload_n 0, 1) := by decide +kernel
theorem d_C_take_121 : decode c_C_take 121 = .ok (.getfield 41, 3) := by decide +kernel
theorem d_C_take_124 : decode c_C_take 124 = .ok (.iload_n 1, 1) := by decide +kernel
theorem d_C_take_125 : decode c_C_take 125 = .ok (.bipush 6, 2) := by decide +kernel
theorem d_C_take_127 : decode c_C_take 127 = .ok (.invokevirtual 63, 3) := by decide +kernel
theorem d_C_take_130 : decode c_C_take 130 = .ok (.invokevirtual 79, 3) := by decide +kernel
theorem d_C_take_133 : decode c_C_take 133 = .ok (.goto 42, 3) := by decide +kernel
theorem d_C_take_136 : decode c_C_take 136 = .ok (.aload_n 0, 1) := by decide +kernel
theorem d_C_take_137 : decode c_C_take 137 = .ok (.getfield 15, 3) := by decide +kernel
theorem d_C_take_140 : decode c_C_take 140 = .ok (.iload_n 2, 1) := by decide +kernel
theorem d_C_take_141 : decode c_C_take 141 = .ok (.aload_n 0, 1) := by decide +kernel
theorem d_C_take_142 : decode c_C_take 142 = .ok (.getfield 41, 3) := by decide +kernel
theorem d_C_take_145 : decode c_C_take 145 = .ok (.iload_n 1, 1) := by decide +kernel
theorem d_C_take_146 : decode c_C_take 146 = .ok (.bipush 6, 2) := by decide +kernel
theorem d_C_take_148 : decode c_C_take 148 = .ok (.invokevirtual 63, 3) := by decide +kernel
theorem d_C_take_151 : decode c_C_take 151 = .ok (.iastore, 1) := by decide +kernel
theorem d_C_take_152 : decode c_C_take 152 = .ok (.aload_n 0, 1) := by decide +kernel
theorem d_C_take_153 : decode c_C_take 153 = .ok (.getfield 9, 3) := by decide +kernel
theorem d_C_take_156 : decode c_C_take 156 = .ok (.iload_n 2, 1) := by decide +kernel
theorem d_C_take_157 : decode c_C_take 157 = .ok (.iconst 2, 1) := by decide +kernel
theorem d_C_take_158 : decode c_C_take 158 = .ok (.iastore, 1) := by decide +kernel
theorem d_C_take_159 : decode c_C_take 159 = .ok (.aload_n 0, 1) := by decide +kernel
theorem d_C_take_160 : decode c_C_take 160 = .ok (.iload_n 2, 1) := by decide +kernel
theorem d_C_take_161 : decode c_C_take 161 = .ok (.invokevirtual 52, 3) := by decide +kernel
theorem d_C_take_164 : decode c_C_take 164 = .ok (.goto 11, 3) := by decide +kernel
theorem d_C_take_167 : decode c_C_take 167 = .ok (.aload_n 0, 1) := by decide +kernel
theorem d_C_take_168 : decode c_C_take 168 = .ok (.iload_n 2, 1) := by decide +kernel
theorem d_C_take_169 : decode c_C_take 169 = .ok (.invokevirtual 83, 3) := by decide +kernel
theorem d_C_take_172 : decode c_C_take 172 = .ok (.goto 3, 3) := by decide +kernel
theorem d_C_take_175 : decode c_C_take 175 = .ok (.return_, 1) := by decide +kernel
theorem d_C_shownValue_0 : decode c_C_shownValue 0 = .ok (.aload_n 0, 1) := by decide +kernel
theorem d_C_shownValue_1 : decode c_C_shownValue 1 = .ok (.getfield 9, 3) := by decide +kernel
theorem d_C_shownValue_4 : decode c_C_shownValue 4 = .ok (.iload_n 1, 1) := by decide +kernel
theorem d_C_shownValue_5 : decode c_C_shownValue 5 = .ok (.iaload, 1) := by decide +kernel
theorem d_C_shownValue_6 : decode c_C_shownValue 6 = .ok (.lookupswitch 44 #[(0, 42), (4, 42), (5, 42), (12, 42)], 42) := by decide +kernel
theorem d_C_shownValue_48 : decode c_C_shownValue 48 = .ok (.iconst 0, 1) := by decide +kernel
theorem d_C_shownValue_49 : decode c_C_shownValue 49 = .ok (.ireturn, 1) := by decide +kernel
theorem d_C_shownValue_50 : decode c_C_shownValue 50 = .ok (.aload_n 0, 1) := by decide +kernel
theorem d_C_shownValue_51 : decode c_C_shownValue 51 = .ok (.getfield 15, 3) := by decide +kernel
theorem d_C_shownValue_54 : decode c_C_shownValue 54 = .ok (.iload_n 1, 1) := by decide +kernel
theorem d_C_shownValue_55 : decode c_C_shownValue 55 = .ok (.iaload, 1) := by decide +kernel
theorem d_C_shownValue_56 : decode c_C_shownValue 56 = .ok (.ireturn, 1) := by decide +kernel
theorem d_C_shownOwed_0 : decode c_C_shownOwed 0 = .ok (.aload_n 0, 1) := by decide +kernel
theorem d_C_shownOwed_1 : decode c_C_shownOwed 1 = .ok (.getfield 9, 3) := by decide +kernel
theorem d_C_shownOwed_4 : decode c_C_shownOwed 4 = .ok (.iload_n 1, 1) := by decide +kernel
theorem d_C_shownOwed_5 : decode c_C_shownOwed 5 = .ok (.iaload, 1) := by decide +kernel
theorem d_C_shownOwed_6 : decode c_C_shownOwed 6 = .ok (.iconst 5, 1) := by decide +kernel
theorem d_C_shownOwed_7 : decode c_C_shownOwed 7 = .ok (.if_icmp .lt 23, 3) := by decide +kernel
theorem d_C_shownOwed_10 : decode c_C_shownOwed 10 = .ok (.aload_n 0, 1) := by decide +kernel
theorem d_C_shownOwed_11 : decode c_C_shownOwed 11 = .ok (.getfield 9, 3) := by decide +kernel
theorem d_C_shownOwed_14 : decode c_C_shownOwed 14 = .ok (.iload_n 1, 1) := by decide +kernel
theorem d_C_shownOwed_15 : decode c_C_shownOwed 15 = .ok (.iaload, 1) := by decide +kernel
theorem d_C_shownOwed_16 : decode c_C_shownOwed 16 = .ok (.bipush 8, 2) := by decide +kernel
theorem d_C_shownOwed_18 : decode c_C_shownOwed 18 = .ok (.if_icmp .gt 12, 3) := by decide +kernel
theorem d_C_shownOwed_21 : decode c_C_shownOwed 21 = .ok (.aload_n 0, 1) := by decide +kernel
theorem d_C_shownOwed_22 : decode c_C_shownOwed 22 = .ok (.getfield 18, 3) := by decide +kernel
theorem d_C_shownOwed_25 : decode c_C_shownOwed 25 = .ok (.iload_n 1, 1) := by decide +kernel
theorem d_C_shownOwed_26 : decode c_C_shownOwed 26 = .ok (.iaload, 1) := by decide +kernel
theorem d_C_shownOwed_27 : decode c_C_shownOwed 27 = .ok (.goto 4, 3) := by decide +kernel
theorem d_C_shownOwed_30 : decode c_C_shownOwed 30 = .ok (.iconst 0, 1) := by decide +kernel
theorem d_C_shownOwed_31 : decode c_C_shownOwed 31 = .ok (.ireturn, 1) := by decide +kernel
theorem d_C_isStill_0 : decode c_C_isStill 0 = .ok (.aload_n 0, 1) := by decide +kernel
theorem d_C_isStill_1 : decode c_C_isStill 1 = .ok (.getfield 9, 3) := by decide +kernel
theorem d_C_isStill_4 : decode c_C_isStill 4 = .ok (.iload_n 1, 1) := by decide +kernel
theorem d_C_isStill_5 : decode c_C_isStill 5 = .ok (.iaload, 1) := by decide +kernel
theorem d_C_isStill_6 : decode c_C_isStill 6 = .ok (.iconst 3, 1) := by decide +kernel
theorem d_C_isStill_7 : decode c_C_isStill 7 = .ok (.if_icmp .gt 7, 3) := by decide +kernel
theorem d_C_isStill_10 : decode c_C_isStill 10 = .ok (.iconst 1, 1) := by decide +kernel
theorem d_C_isStill_11 : decode c_C_isStill 11 = .ok (.goto 4, 3) := by decide +kernel
theorem d_C_isStill_14 : decode c_C_isStill 14 = .ok (.iconst 0, 1) := by decide +kernel
theorem d_C_isStill_15 : decode c_C_isStill 15 = .ok (.ireturn, 1) := by decide +kernel
theorem d_C_isEnough_0 : decode c_C_isEnough 0 = .ok (.aload_n 0, 1) := by decide +kernel
theorem d_C_isEnough_1 : decode c_C_isEnough 1 = .ok (.getfield 9, 3) := by decide +kernel
theorem d_C_isEnough_4 : decode c_C_isEnough 4 = .ok (.iload_n 1, 1) := by decide +kernel
theorem d_C_isEnough_5 : decode c_C_isEnough 5 = .ok (.iaload, 1) := by decide +kernel
theorem d_C_isEnough_6 : decode c_C_isEnough 6 = .ok (.aload_n 0, 1) := by decide +kernel
theorem d_C_isEnough_7 : decode c_C_isEnough 7 = .ok (.getfield 25, 3) := by decide +kernel
theorem d_C_isEnough_10 : decode c_C_isEnough 10 = .ok (.ifCond .ne 7, 3) := by decide +kernel
theorem d_C_isEnough_13 : decode c_C_isEnough 13 = .ok (.iconst 1, 1) := by decide +kernel
theorem d_C_isEnough_14 : decode c_C_isEnough 14 = .ok (.goto 4, 3) := by decide +kernel
theorem d_C_isEnough_17 : decode c_C_isEnough 17 = .ok (.iconst 2, 1) := by decide +kernel
theorem d_C_isEnough_18 : decode c_C_isEnough 18 = .ok (.if_icmp .lt 7, 3) := by decide +kernel
theorem d_C_isEnough_21 : decode c_C_isEnough 21 = .ok (.iconst 1, 1) := by decide +kernel
theorem d_C_isEnough_22 : decode c_C_isEnough 22 = .ok (.goto 4, 3) := by decide +kernel
theorem d_C_isEnough_25 : decode c_C_isEnough 25 = .ok (.iconst 0, 1) := by decide +kernel
theorem d_C_isEnough_26 : decode c_C_isEnough 26 = .ok (.ireturn, 1) := by decide +kernel
theorem d_C_request_0 : decode c_C_request 0 = .ok (.aload_n 0, 1) := by decide +kernel
theorem d_C_request_1 : decode c_C_request 1 = .ok (.iconst 1, 1) := by decide +kernel
theorem d_C_request_2 : decode c_C_request 2 = .ok (.putfield 21, 3) := by decide +kernel
theorem d_C_request_5 : decode c_C_request 5 = .ok (.aload_n 0, 1) := by decide +kernel
theorem d_C_request_6 : decode c_C_request 6 = .ok (.getfield 18, 3) := by decide +kernel
theorem d_C_request_9 : decode c_C_request 9 = .ok (.iload_n 1, 1) := by decide +kernel
theorem d_C_request_10 : decode c_C_request 10 = .ok (.iconst 0, 1) := by decide +kernel
theorem d_C_request_11 : decode c_C_request 11 = .ok (.iastore, 1) := by decide +kernel
theorem d_C_request_12 : decode c_C_request 12 = .ok (.aload_n 0, 1) := by decide +kernel
theorem d_C_request_13 : decode c_C_request 13 = .ok (.getfield 25, 3) := by decide +kernel
theorem d_C_request_16 : decode c_C_request 16 = .ok (.ifCond .ne 33, 3) := by decide +kernel
theorem d_C_request_19 : decode c_C_request 19 = .ok (.aload_n 0, 1) := by decide +kernel
theorem d_C_request_20 : decode c_C_request 20 = .ok (.getfield 41, 3) := by decide +kernel
theorem d_C_request_23 : decode c_C_request 23 = .ok (.iconst 0, 1) := by decide +kernel
theorem d_C_request_24 : decode c_C_request 24 = .ok (.iload_n 1, 1) := by decide +kernel
theorem d_C_request_25 : decode c_C_request 25 = .ok (.aload_n 0, 1) := by decide +kernel
theorem d_C_request_26 : decode c_C_request 26 = .ok (.getfield 38, 3) := by decide +kernel
theorem d_C_request_29 : decode c_C_request 29 = .ok (.iconst 4, 1) := by decide +kernel
theorem d_C_request_30 : decode c_C_request 30 = .ok (.aload_n 0, 1) := by decide +kernel
theorem d_C_request_31 : decode c_C_request 31 = .ok (.getfield 38, 3) := by decide +kernel
theorem d_C_request_34 : decode c_C_request 34 = .ok (.iconst 0, 1) := by decide +kernel
theorem d_C_request_35 : decode c_C_request 35 = .ok (.iconst 0, 1) := by decide +kernel
theorem d_C_request_36 : decode c_C_request 36 = .ok (.invokevirtual 86, 3) := by decide +kernel
theorem d_C_request_39 : decode c_C_request 39 = .ok (.aload_n 0, 1) := by decide +kernel
theorem d_C_request_40 : decode c_C_request 40 = .ok (.getfield 9, 3) := by decide +kernel
theorem d_C_request_43 : decode c_C_request 43 = .ok (.iload_n 1, 1) := by decide +kernel
theorem d_C_request_44 : decode c_C_request 44 = .ok (.iconst 4, 1) := by decide +kernel
theorem d_C_request_45 : decode c_C_request 45 = .ok (.iastore, 1) := by decide +kernel
theorem d_C_request_46 : decode c_C_request 46 = .ok (.goto 45, 3) := by decide +kernel
theorem d_C_request_49 : decode c_C_request 49 = .ok (.aload_n 0, 1) := by decide +kernel
theorem d_C_request_50 : decode c_C_request 50 = .ok (.getfield 41, 3) := by decide +kernel
theorem d_C_request_53 : decode c_C_request 53 = .ok (.iconst 1, 1) := by decide +kernel
theorem d_C_request_54 : decode c_C_request 54 = .ok (.iload_n 1, 1) := by decide +kernel
theorem d_C_request_55 : decode c_C_request 55 = .ok (.aload_n 0, 1) := by decide +kernel
theorem d_C_request_56 : decode c_C_request 56 = .ok (.getfield 38, 3) := by decide +kernel
theorem d_C_request_59 : decode c_C_request 59 = .ok (.iconst 4, 1) := by decide +kernel
theorem d_C_request_60 : decode c_C_request 60 = .ok (.aload_n 0, 1) := by decide +kernel
theorem d_C_request_61 : decode c_C_request 61 = .ok (.getfield 38, 3) := by decide +kernel
theorem d_C_request_64 : decode c_C_request 64 = .ok (.iconst 0, 1) := by decide +kernel
theorem d_C_request_65 : decode c_C_request 65 = .ok (.iconst 0, 1) := by decide +kernel
theorem d_C_request_66 : decode c_C_request 66 = .ok (.invokevirtual 86, 3) := by decide +kernel
theorem d_C_request_69 : decode c_C_request 69 = .ok (.aload_n 0, 1) := by decide +kernel
theorem d_C_request_70 : decode c_C_request 70 = .ok (.getfield 9, 3) := by decide +kernel
theorem d_C_request_73 : decode c_C_request 73 = .ok (.iload_n 1, 1) := by decide +kernel
theorem d_C_request_74 : decode c_C_request 74 = .ok (.aload_n 0, 1) := by decide +kernel
theorem d_C_request_75 : decode c_C_request 75 = .ok (.getfield 9, 3) := by decide +kernel
theorem d_C_request_78 : decode c_C_request 78 = .ok (.iload_n 1, 1) := by decide +kernel
theorem d_C_request_79 : decode c_C_request 79 = .ok (.iaload, 1) := by decide +kernel
theorem d_C_request_80 : decode c_C_request 80 = .ok (.iconst 1, 1) := by decide +kernel
theorem d_C_request_81 : decode c_C_request 81 = .ok (.if_icmp .ne 8, 3) := by decide +kernel
theorem d_C_request_84 : decode c_C_request 84 = .ok (.bipush 7, 2) := by decide +kernel
theorem d_C_request_86 : decode c_C_request 86 = .ok (.goto 4, 3) := by decide +kernel
theorem d_C_request_89 : decode c_C_request 89 = .ok (.iconst 5, 1) := by decide +kernel
theorem d_C_request_90 : decode c_C_request 90 = .ok (.iastore, 1) := by decide +kernel
theorem d_C_request_91 : decode c_C_request 91 = .ok (.return_, 1) := by decide +kernel
theorem d_C_sendLeave_0 : decode c_C_sendLeave 0 = .ok (.aload_n 0, 1) := by decide +kernel
theorem d_C_sendLeave_1 : decode c_C_sendLeave 1 = .ok (.getfield 41, 3) := by decide +kernel
theorem d_C_sendLeave_4 : decode c_C_sendLeave 4 = .ok (.iload_n 1, 1) := by decide +kernel
theorem d_C_sendLeave_5 : decode c_C_sendLeave 5 = .ok (.iload_n 2, 1) := by decide +kernel
theorem d_C_sendLeave_6 : decode c_C_sendLeave 6 = .ok (.aload_n 0, 1) := by decide +kernel
theorem d_C_sendLeave_7 : decode c_C_sendLeave 7 = .ok (.getfield 38, 3) := by decide +kernel
theorem d_C_sendLeave_10 : decode c_C_sendLeave 10 = .ok (.iconst 4, 1) := by decide +kernel
theorem d_C_sendLeave_11 : decode c_C_sendLeave 11 = .ok (.aload_n 0, 1) := by decide +kernel
theorem d_C_sendLeave_12 : decode c_C_sendLeave 12 = .ok (.getfield 38, 3) := by decide +kernel
theorem d_C_sendLeave_15 : decode c_C_sendLeave 15 = .ok (.iconst 0, 1) := by decide +kernel
theorem d_C_sendLeave_16 : decode c_C_sendLeave 16 = .ok (.iload_n 3, 1) := by decide +kernel
theorem d_C_sendLeave_17 : decode c_C_sendLeave 17 = .ok (.invokevirtual 86, 3) := by decide +kernel
theorem d_C_sendLeave_20 : decode c_C_sendLeave 20 = .ok (.aload_n 0, 1) := by decide +kernel
theorem d_C_sendLeave_21 : decode c_C_sendLeave 21 = .ok (.getfield 9, 3) := by decide +kernel
theorem d_C_sendLeave_24 : decode c_C_sendLeave 24 = .ok (.iload_n 2, 1) := by decide +kernel
theorem d_C_sendLeave_25 : decode c_C_sendLeave 25 = .ok (.iload 4, 2) := by decide +kernel
theorem d_C_sendLeave_27 : decode c_C_sendLeave 27 = .ok (.iastore, 1) := by decide +kernel
theorem d_C_sendLeave_28 : decode c_C_sendLeave 28 = .ok (.return_, 1) := by decide +kernel
theorem d_C_shareWith_0 : decode c_C_shareWith 0 = .ok (.aload_n 0, 1) := by decide +kernel
theorem d_C_shareWith_1 : decode c_C_shareWith 1 = .ok (.iload_n 2, 1) := by decide +kernel
theorem d_C_shareWith_2 : decode c_C_shareWith 2 = .ok (.invokevirtual 90, 3) := by decide +kernel
theorem d_C_shareWith_5 : decode c_C_shareWith 5 = .ok (.istore_n 3, 1) := by decide +kernel
theorem d_C_shareWith_6 : decode c_C_shareWith 6 = .ok (.aload_n 0, 1) := by decide +kernel
theorem d_C_shareWith_7 : decode c_C_shareWith 7 = .ok (.getfield 41, 3) := by decide +kernel
theorem d_C_shareWith_10 : decode c_C_shareWith 10 = .ok (.bipush 9, 2) := by decide +kernel
theorem d_C_shareWith_12 : decode c_C_shareWith 12 = .ok (.iload_n 2, 1) := by decide +kernel
theorem d_C_shareWith_13 : decode c_C_shareWith 13 = .ok (.aload_n 0, 1) := by decide +kernel
theorem d_C_shareWith_14 : decode c_C_shareWith 14 = .ok (.getfield 38, 3) := by decide +kernel
theorem d_C_shareWith_17 : decode c_C_shareWith 17 = .ok (.iload_n 1, 1) := by decide +kernel
theorem d_C_shareWith_18 : decode c_C_shareWith 18 = .ok (.iload_n 1, 1) := by decide +kernel
theorem d_C_shareWith_19 : decode c_C_shareWith 19 = .ok (.iconst 0, 1) := by decide +kernel
theorem d_C_shareWith_20 : decode c_C_shareWith 20 = .ok (.aload_n 0, 1) := by decide +kernel
theorem d_C_shareWith_21 : decode c_C_shareWith 21 = .ok (.getfield 15, 3) := by decide +kernel
theorem d_C_shareWith_24 : decode c_C_shareWith 24 = .ok (.iload_n 2, 1) := by decide +kernel
theorem d_C_shareWith_25 : decode c_C_shareWith 25 = .ok (.iaload, 1) := by decide +kernel
theorem d_C_shareWith_26 : decode c_C_shareWith 26 = .ok (.invokevirtual 86, 3) := by decide +kernel
theorem d_C_shareWith_29 : decode c_C_shareWith 29 = .ok (.aload_n 0, 1) := by decide +kernel
theorem d_C_shareWith_30 : decode c_C_shareWith 30 = .ok (.getfield 41, 3) := by decide +kernel
theorem d_C_shareWith_33 : decode c_C_shareWith 33 = .ok (.bipush 9, 2) := by decide +kernel
theorem d_C_shareWith_35 : decode c_C_shareWith 35 = .ok (.iload_n 2, 1) := by decide +kernel
theorem d_C_shareWith_36 : decode c_C_shareWith 36 = .ok (.aload_n 0, 1) := by decide +kernel
theorem d_C_shareWith_37 : decode c_C_shareWith 37 = .ok (.getfield 38, 3) := by decide +kernel
theorem d_C_shareWith_40 : decode c_C_shareWith 40 = .ok (.iconst 4, 1) := by decide +kernel
theorem d_C_shareWith_41 : decode c_C_shareWith 41 = .ok (.iload_n 1, 1) := by decide +kernel
theorem d_C_shareWith_42 : decode c_C_shareWith 42 = .ok (.iconst 0, 1) := by decide +kernel
theorem d_C_shareWith_43 : decode c_C_shareWith 43 = .ok (.aload_n 0, 1) := by decide +kernel
theorem d_C_shareWith_44 : decode c_C_shareWith 44 = .ok (.getfield 15, 3) := by decide +kernel
theorem d_C_shareWith_47 : decode c_C_shareWith 47 = .ok (.iload_n 2, 1) := by decide +kernel
theorem d_C_shareWith_48 : decode c_C_shareWith 48 = .ok (.iaload, 1) := by decide +kernel
theorem d_C_shareWith_49 : decode c_C_shareWith 49 = .ok (.invokevirtual 86, 3) := by decide +kernel
theorem d_C_shareWith_52 : decode c_C_shareWith 52 = .ok (.aload_n 0, 1) := by decide +kernel
theorem d_C_shareWith_53 : decode c_C_shareWith 53 = .ok (.getfield 9, 3) := by decide +kernel
theorem d_C_shareWith_56 : decode c_C_shareWith 56 = .ok (.iload_n 2, 1) := by decide +kernel
theorem d_C_shareWith_57 : decode c_C_shareWith 57 = .ok (.iload_n 3, 1) := by decide +kernel
theorem d_C_shareWith_58 : decode c_C_shareWith 58 = .ok (.ifCond .eq 8, 3) := by decide +kernel
theorem d_C_shareWith_61 : decode c_C_shareWith 61 = .ok (.bipush 11, 2) := by decide +kernel
theorem d_C_shareWith_63 : decode c_C_shareWith 63 = .ok (.goto 4, 3) := by decide +kernel
theorem d_C_shareWith_66 : decode c_C_shareWith 66 = .ok (.iconst 1, 1) := by decide +kernel
theorem d_C_shareWith_67 : decode c_C_shareWith 67 = .ok (.iastore, 1) := by decide +kernel
theorem d_C_shareWith_68 : decode c_C_shareWith 68 = .ok (.return_, 1) := by decide +kernel
theorem d_C_yieldTo_0 : decode c_C_yieldTo 0 = .ok (.aload_n 0, 1) := by decide +kernel
theorem d_C_yieldTo_1 : decode c_C_yieldTo 1 = .ok (.iload_n 2, 1) := by decide +kernel
theorem d_C_yieldTo_2 : decode c_C_yieldTo 2 = .ok (.invokevirtual 90, 3) := by decide +kernel
theorem d_C_yieldTo_5 : decode c_C_yieldTo 5 = .ok (.istore_n 3, 1) := by decide +kernel
theorem d_C_yieldTo_6 : decode c_C_yieldTo 6 = .ok (.aload_n 0, 1) := by decide +kernel
theorem d_C_yieldTo_7 : decode c_C_yieldTo 7 = .ok (.getfield 41, 3) := by decide +kernel
theorem d_C_yieldTo_10 : decode c_C_yieldTo 10 = .ok (.bipush 9, 2) := by decide +kernel
theorem d_C_yieldTo_12 : decode c_C_yieldTo 12 = .ok (.iload_n 2, 1) := by decide +kernel
theorem d_C_yieldTo_13 : decode c_C_yieldTo 13 = .ok (.aload_n 0, 1) := by decide +kernel
theorem d_C_yieldTo_14 : decode c_C_yieldTo 14 = .ok (.getfield 38, 3) := by decide +kernel
theorem d_C_yieldTo_17 : decode c_C_yieldTo 17 = .ok (.iload_n 1, 1) := by decide +kernel
theorem d_C_yieldTo_18 : decode c_C_yieldTo 18 = .ok (.iload_n 1, 1) := by decide +kernel
theorem d_C_yieldTo_19 : decode c_C_yieldTo 19 = .ok (.iconst 0, 1) := by decide +kernel
theorem d_C_yieldTo_20 : decode c_C_yieldTo 20 = .ok (.aload_n 0, 1) := by decide +kernel
theorem d_C_yieldTo_21 : decode c_C_yieldTo 21 = .ok (.getfield 15, 3) := by decide +kernel
theorem d_C_yieldTo_24 : decode c_C_yieldTo 24 = .ok (.iload_n 2, 1) := by decide +kernel
theorem d_C_yieldTo_25 : decode c_C_yieldTo 25 = .ok (.iaload, 1) := by decide +kernel
theorem d_C_yieldTo_26 : decode c_C_yieldTo 26 = .ok (.invokevirtual 86, 3) := by decide +kernel
theorem d_C_yieldTo_29 : decode c_C_yieldTo 29 = .ok (.aload_n 0, 1) := by decide +kernel
theorem d_C_yieldTo_30 : decode c_C_yieldTo 30 = .ok (.getfield 9, 3) := by decide +kernel
theorem d_C_yieldTo_33 : decode c_C_yieldTo 33 = .ok (.iload_n 2, 1) := by decide +kernel
theorem d_C_yieldTo_34 : decode c_C_yieldTo 34 = .ok (.iload_n 3, 1) := by decide +kernel
theorem d_C_yieldTo_35 : decode c_C_yieldTo 35 = .ok (.ifCond .eq 8, 3) := by decide +kernel
theorem d_C_yieldTo_38 : decode c_C_yieldTo 38 = .ok (.bipush 12, 2) := by decide +kernel
theorem d_C_yieldTo_40 : decode c_C_yieldTo 40 = .ok (.goto 4, 3) := by decide +kernel
theorem d_C_yieldTo_43 : decode c_C_yieldTo 43 = .ok (.iconst 0, 1) := by decide +kernel
theorem d_C_yieldTo_44 : decode c_C_yieldTo 44 = .ok (.iastore, 1) := by decide +kernel
theorem d_C_yieldTo_45 : decode c_C_yieldTo 45 = .ok (.return_, 1) := by decide +kernel
theorem d_C_isLeavingAlone_0 : decode c_C_isLeavingAlone 0 = .ok (.aload_n 0, 1) := by decide +kernel
theorem d_C_isLeavingAlone_1 : decode c_C_isLeavingAlone 1 = .ok (.getfield 9, 3) := by decide +kernel
theorem d_C_isLeavingAlone_4 : decode c_C_isLeavingAlone 4 = .ok (.iload_n 1, 1) := by decide +kernel
theorem d_C_isLeavingAlone_5 : decode c_C_isLeavingAlone 5 = .ok (.iaload, 1) := by decide +kernel
theorem d_C_isLeavingAlone_6 : decode c_C_isLeavingAlone 6 = .ok (.bipush 9, 2) := by decide +kernel
theorem d_C_isLeavingAlone_8 : decode c_C_isLeavingAlone 8 = .ok (.if_icmp .eq 14, 3) := by decide +kernel
theorem d_C_isLeavingAlone_11 : decode c_C_isLeavingAlone 11 = .ok (.aload_n 0, 1) := by decide +kernel
theorem d_C_isLeavingAlone_12 : decode c_C_isLeavingAlone 12 = .ok (.getfield 9, 3) := by decide +kernel
theorem d_C_isLeavingAlone_15 : decode c_C_isLeavingAlone 15 = .ok (.iload_n 1, 1) := by decide +kernel
theorem d_C_isLeavingAlone_16 : decode c_C_isLeavingAlone 16 = .ok (.iaload, 1) := by decide +kernel
theorem d_C_isLeavingAlone_17 : decode c_C_isLeavingAlone 17 = .ok (.bipush 10, 2) := by decide +kernel
theorem d_C_isLeavingAlone_19 : decode c_C_isLeavingAlone 19 = .ok (.if_icmp .ne 7, 3) := by decide +kernel
theorem d_C_isLeavingAlone_22 : decode c_C_isLeavingAlone 22 = .ok (.iconst 1, 1) := by decide +kernel
theorem d_C_isLeavingAlone_23 : decode c_C_isLeavingAlone 23 = .ok (.goto 4, 3) := by decide +kernel
theorem d_C_isLeavingAlone_26 : decode c_C_isLeavingAlone 26 = .ok (.iconst 0, 1) := by decide +kernel
theorem d_C_isLeavingAlone_27 : decode c_C_isLeavingAlone 27 = .ok (.ireturn, 1) := by decide +kernel
theorem d_C_dropFor_0 : decode c_C_dropFor 0 = .ok (.aload_n 0, 1) := by decide +kernel
theorem d_C_dropFor_1 : decode c_C_dropFor 1 = .ok (.getfield 41, 3) := by decide +kernel
theorem d_C_dropFor_4 : decode c_C_dropFor 4 = .ok (.bipush 11, 2) := by decide +kernel
theorem d_C_dropFor_6 : decode c_C_dropFor 6 = .ok (.iload_n 2, 1) := by decide +kernel
theorem d_C_dropFor_7 : decode c_C_dropFor 7 = .ok (.aload_n 0, 1) := by decide +kernel
theorem d_C_dropFor_8 : decode c_C_dropFor 8 = .ok (.getfield 38, 3) := by decide +kernel
theorem d_C_dropFor_11 : decode c_C_dropFor 11 = .ok (.iload_n 1, 1) := by decide +kernel
theorem d_C_dropFor_12 : decode c_C_dropFor 12 = .ok (.iload_n 1, 1) := by decide +kernel
theorem d_C_dropFor_13 : decode c_C_dropFor 13 = .ok (.iconst 0, 1) := by decide +kernel
theorem d_C_dropFor_14 : decode c_C_dropFor 14 = .ok (.iconst 0, 1) := by decide +kernel
theorem d_C_dropFor_15 : decode c_C_dropFor 15 = .ok (.invokevirtual 86, 3) := by decide +kernel
theorem d_C_dropFor_18 : decode c_C_dropFor 18 = .ok (.aload_n 0, 1) := by decide +kernel
theorem d_C_dropFor_19 : decode c_C_dropFor 19 = .ok (.getfield 9, 3) := by decide +kernel
theorem d_C_dropFor_22 : decode c_C_dropFor 22 = .ok (.iload_n 2, 1) := by decide +kernel
theorem d_C_dropFor_23 : decode c_C_dropFor 23 = .ok (.iaload, 1) := by decide +kernel
theorem d_C_dropFor_24 : decode c_C_dropFor 24 = .ok (.lookupswitch 49 #[(7, 28), (11, 38)], 28) := by decide +kernel
theorem d_C_dropFor_52 : decode c_C_dropFor 52 = .ok (.aload_n 0, 1) := by decide +kernel
theorem d_C_dropFor_53 : decode c_C_dropFor 53 = .ok (.getfield 9, 3) := by decide +kernel
theorem d_C_dropFor_56 : decode c_C_dropFor 56 = .ok (.iload_n 2, 1) := by decide +kernel
theorem d_C_dropFor_57 : decode c_C_dropFor 57 = .ok (.iconst 5, 1) := by decide +kernel
theorem d_C_dropFor_58 : decode c_C_dropFor 58 = .ok (.iastore, 1) := by decide +kernel
theorem d_C_dropFor_59 : decode c_C_dropFor 59 = .ok (.goto 21, 3) := by decide +kernel
theorem d_C_dropFor_62 : decode c_C_dropFor 62 = .ok (.aload_n 0, 1) := by decide +kernel
theorem d_C_dropFor_63 : decode c_C_dropFor 63 = .ok (.getfield 9, 3) := by decide +kernel
theorem d_C_dropFor_66 : decode c_C_dropFor 66 = .ok (.iload_n 2, 1) := by decide +kernel
theorem d_C_dropFor_67 : decode c_C_dropFor 67 = .ok (.bipush 12, 2) := by decide +kernel
theorem d_C_dropFor_69 : decode c_C_dropFor 69 = .ok (.iastore, 1) := by decide +kernel
theorem d_C_dropFor_70 : decode c_C_dropFor 70 = .ok (.goto 10, 3) := by decide +kernel
theorem d_C_dropFor_73 : decode c_C_dropFor 73 = .ok (.aload_n 0, 1) := by decide +kernel
theorem d_C_dropFor_74 : decode c_C_dropFor 74 = .ok (.getfield 9, 3) := by decide +kernel
theorem d_C_dropFor_77 : decode c_C_dropFor 77 = .ok (.iload_n 2, 1) := by decide +kernel
theorem d_C_dropFor_78 : decode c_C_dropFor 78 = .ok (.iconst 0, 1) := by decide +kernel
theorem d_C_dropFor_79 : decode c_C_dropFor 79 = .ok (.iastore, 1) := by decide +kernel
theorem d_C_dropFor_80 : decode c_C_dropFor 80 = .ok (.return_, 1) := by decide +kernel
theorem d_C_takeData_0 : decode c_C_takeData 0 = .ok (.aload_n 0, 1) := by decide +kernel
theorem d_C_takeData_1 : decode c_C_takeData 1 = .ok (.getfield 15, 3) := by decide +kernel
theorem d_C_takeData_4 : decode c_C_takeData 4 = .ok (.iload_n 1, 1) := by decide +kernel
theorem d_C_takeData_5 : decode c_C_takeData 5 = .ok (.iload_n 3, 1) := by decide +kernel
theorem d_C_takeData_6 : decode c_C_takeData 6 = .ok (.iastore, 1) := by decide +kernel
theorem d_C_takeData_7 : decode c_C_takeData 7 = .ok (.aload_n 0, 1) := by decide +kernel
theorem d_C_takeData_8 : decode c_C_takeData 8 = .ok (.getfield 9, 3) := by decide +kernel
theorem d_C_takeData_11 : decode c_C_takeData 11 = .ok (.iload_n 1, 1) := by decide +kernel
theorem d_C_takeData_12 : decode c_C_takeData 12 = .ok (.iaload, 1) := by decide +kernel
theorem d_C_takeData_13 : decode c_C_takeData 13 = .ok (.iconst 4, 1) := by decide +kernel
theorem d_C_takeData_14 : decode c_C_takeData 14 = .ok (.if_icmp .ne 16, 3) := by decide +kernel
theorem d_C_takeData_17 : decode c_C_takeData 17 = .ok (.aload_n 0, 1) := by decide +kernel
theorem d_C_takeData_18 : decode c_C_takeData 18 = .ok (.getfield 9, 3) := by decide +kernel
theorem d_C_takeData_21 : decode c_C_takeData 21 = .ok (.iload_n 1, 1) := by decide +kernel
theorem d_C_takeData_22 : decode c_C_takeData 22 = .ok (.iconst 1, 1) := by decide +kernel
theorem d_C_takeData_23 : decode c_C_takeData 23 = .ok (.iastore, 1) := by decide +kernel
theorem d_C_takeData_24 : decode c_C_takeData 24 = .ok (.aload_n 0, 1) := by decide +kernel
theorem d_C_takeData_25 : decode c_C_takeData 25 = .ok (.iload_n 1, 1) := by decide +kernel
theorem d_C_takeData_26 : decode c_C_takeData 26 = .ok (.invokevirtual 52, 3) := by decide +kernel
theorem d_C_takeData_29 : decode c_C_takeData 29 = .ok (.return_, 1) := by decide +kernel
theorem d_C_takeData_30 : decode c_C_takeData 30 = .ok (.aload_n 0, 1) := by decide +kernel
theorem d_C_takeData_31 : decode c_C_takeData 31 = .ok (.getfield 18, 3) := by decide +kernel
theorem d_C_takeData_34 : decode c_C_takeData 34 = .ok (.iload_n 1, 1) := by decide +kernel
theorem d_C_takeData_35 : decode c_C_takeData 35 = .ok (.dup2, 1) := by decide +kernel
theorem d_C_takeData_36 : decode c_C_takeData 36 = .ok (.iaload, 1) := by decide +kernel
theorem d_C_takeData_37 : decode c_C_takeData 37 = .ok (.iload_n 2, 1) := by decide +kernel
theorem d_C_takeData_38 : decode c_C_takeData 38 = .ok (.iadd, 1) := by decide +kernel
theorem d_C_takeData_39 : decode c_C_takeData 39 = .ok (.iastore, 1) := by decide +kernel
theorem d_C_takeData_40 : decode c_C_takeData 40 = .ok (.aload_n 0, 1) := by decide +kernel
theorem d_C_takeData_41 : decode c_C_takeData 41 = .ok (.getfield 9, 3) := by decide +kernel
theorem d_C_takeData_44 : decode c_C_takeData 44 = .ok (.iload_n 1, 1) := by decide +kernel
theorem d_C_takeData_45 : decode c_C_takeData 45 = .ok (.aload_n 0, 1) := by decide +kernel
theorem d_C_takeData_46 : decode c_C_takeData 46 = .ok (.getfield 9, 3) := by decide +kernel
theorem d_C_takeData_49 : decode c_C_takeData 49 = .ok (.iload_n 1, 1) := by decide +kernel
theorem d_C_takeData_50 : decode c_C_takeData 50 = .ok (.iaload, 1) := by decide +kernel
theorem d_C_takeData_51 : decode c_C_takeData 51 = .ok (.bipush 7, 2) := by decide +kernel
theorem d_C_takeData_53 : decode c_C_takeData 53 = .ok (.if_icmp .ne 8, 3) := by decide +kernel
theorem d_C_takeData_56 : decode c_C_takeData 56 = .ok (.bipush 8, 2) := by decide +kernel
theorem d_C_takeData_58 : decode c_C_takeData 58 = .ok (.goto 5, 3) := by decide +kernel
theorem d_C_takeData_61 : decode c_C_takeData 61 = .ok (.bipush 6, 2) := by decide +kernel
theorem d_C_takeData_63 : decode c_C_takeData 63 = .ok (.iastore, 1) := by decide +kernel
theorem d_C_takeData_64 : decode c_C_takeData 64 = .ok (.aload_n 0, 1) := by decide +kernel
theorem d_C_takeData_65 : decode c_C_takeData 65 = .ok (.iload_n 1, 1) := by decide +kernel
theorem d_C_takeData_66 : decode c_C_takeData 66 = .ok (.invokevirtual 93, 3) := by decide +kernel
theorem d_C_takeData_69 : decode c_C_takeData 69 = .ok (.return_, 1) := by decide +kernel
theorem d_C_takeDropped_0 : decode c_C_takeDropped 0 = .ok (.aload_n 0, 1) := by decide +kernel
theorem d_C_takeDropped_1 : decode c_C_takeDropped 1 = .ok (.getfield 18, 3) := by decide +kernel
theorem d_C_takeDropped_4 : decode c_C_takeDropped 4 = .ok (.iload_n 1, 1) := by decide +kernel
theorem d_C_takeDropped_5 : decode c_C_takeDropped 5 = .ok (.dup2, 1) := by decide +kernel
theorem d_C_takeDropped_6 : decode c_C_takeDropped 6 = .ok (.iaload, 1) := by decide +kernel
theorem d_C_takeDropped_7 : decode c_C_takeDropped 7 = .ok (.iconst 1, 1) := by decide +kernel
theorem d_C_takeDropped_8 : decode c_C_takeDropped 8 = .ok (.isub, 1) := by decide +kernel
theorem d_C_takeDropped_9 : decode c_C_takeDropped 9 = .ok (.iastore, 1) := by decide +kernel
theorem d_C_takeDropped_10 : decode c_C_takeDropped 10 = .ok (.aload_n 0, 1) := by decide +kernel
theorem d_C_takeDropped_11 : decode c_C_takeDropped 11 = .ok (.getfield 9, 3) := by decide +kernel
theorem d_C_takeDropped_14 : decode c_C_takeDropped 14 = .ok (.iload_n 1, 1) := by decide +kernel
theorem d_C_takeDropped_15 : decode c_C_takeDropped 15 = .ok (.iaload, 1) := by decide +kernel
theorem d_C_takeDropped_16 : decode c_C_takeDropped 16 = .ok (.bipush 6, 2) := by decide +kernel
theorem d_C_takeDropped_18 : decode c_C_takeDropped 18 = .ok (.if_icmp .eq 14, 3) := by decide +kernel
theorem d_C_takeDropped_21 : decode c_C_takeDropped 21 = .ok (.aload_n 0, 1) := by decide +kernel
theorem d_C_takeDropped_22 : decode c_C_takeDropped 22 = .ok (.getfield 9, 3) := by decide +kernel
theorem d_C_takeDropped_25 : decode c_C_takeDropped 25 = .ok (.iload_n 1, 1) := by decide +kernel
theorem d_C_takeDropped_26 : decode c_C_takeDropped 26 = .ok (.iaload, 1) := by decide +kernel
theorem d_C_takeDropped_27 : decode c_C_takeDropped 27 = .ok (.bipush 8, 2) := by decide +kernel
theorem d_C_takeDropped_29 : decode c_C_takeDropped 29 = .ok (.if_icmp .ne 8, 3) := by decide +kernel
theorem d_C_takeDropped_32 : decode c_C_takeDropped 32 = .ok (.aload_n 0, 1) := by decide +kernel
theorem d_C_takeDropped_33 : decode c_C_takeDropped 33 = .ok (.iload_n 1, 1) := by decide +kernel
theorem d_C_takeDropped_34 : decode c_C_takeDropped 34 = .ok (.invokevirtual 93, 3) := by decide +kernel
theorem d_C_takeDropped_37 : decode c_C_takeDropped 37 = .ok (.return_, 1) := by decide +kernel
theorem d_C_ownIfNothingOwed_0 : decode c_C_ownIfNothingOwed 0 = .ok (.aload_n 0, 1) := by decide +kernel
theorem d_C_ownIfNothingOwed_1 : decode c_C_ownIfNothingOwed 1 = .ok (.getfield 18, 3) := by decide +kernel
theorem d_C_ownIfNothingOwed_4 : decode c_C_ownIfNothingOwed 4 = .ok (.iload_n 1, 1) := by decide +kernel
theorem d_C_ownIfNothingOwed_5 : decode c_C_ownIfNothingOwed 5 = .ok (.iaload, 1) := by decide +kernel
theorem d_C_ownIfNothingOwed_6 : decode c_C_ownIfNothingOwed 6 = .ok (.ifCond .ne 15, 3) := by decide +kernel
theorem d_C_ownIfNothingOwed_9 : decode c_C_ownIfNothingOwed 9 = .ok (.aload_n 0, 1) := by decide +kernel
theorem d_C_ownIfNothingOwed_10 : decode c_C_ownIfNothingOwed 10 = .ok (.getfield 9, 3) := by decide +kernel
theorem d_C_ownIfNothingOwed_13 : decode c_C_ownIfNothingOwed 13 = .ok (.iload_n 1, 1) := by decide +kernel
theorem d_C_ownIfNothingOwed_14 : decode c_C_ownIfNothingOwed 14 = .ok (.iconst 3, 1) := by decide +kernel
theorem d_C_ownIfNothingOwed_15 : decode c_C_ownIfNothingOwed 15 = .ok (.iastore, 1) := by decide +kernel
theorem d_C_ownIfNothingOwed_16 : decode c_C_ownIfNothingOwed 16 = .ok (.aload_n 0, 1) := by decide +kernel
theorem d_C_ownIfNothingOwed_17 : decode c_C_ownIfNothingOwed 17 = .ok (.iload_n 1, 1) := by decide +kernel
theorem d_C_ownIfNothingOwed_18 : decode c_C_ownIfNothingOwed 18 = .ok (.invokevirtual 52, 3) := by decide +kernel
theorem d_C_ownIfNothingOwed_21 : decode c_C_ownIfNothingOwed 21 = .ok (.return_, 1) := by decide +kernel
theorem d_C_finish_0 : decode c_C_finish 0 = .ok (.aload_n 0, 1) := by decide +kernel
theorem d_C_finish_1 : decode c_C_finish 1 = .ok (.getfield 15, 3) := by decide +kernel
theorem d_C_finish_4 : decode c_C_finish 4 = .ok (.iload_n 1, 1) := by decide +kernel
theorem d_C_finish_5 : decode c_C_finish 5 = .ok (.iaload, 1) := by decide +kernel
theorem d_C_finish_6 : decode c_C_finish 6 = .ok (.istore_n 2, 1) := by decide +kernel
theorem d_C_finish_7 : decode c_C_finish 7 = .ok (.aload_n 0, 1) := by decide +kernel
theorem d_C_finish_8 : decode c_C_finish 8 = .ok (.aload_n 0, 1) := by decide +kernel
theorem d_C_finish_9 : decode c_C_finish 9 = .ok (.getfield 25, 3) := by decide +kernel
theorem d_C_finish_12 : decode c_C_finish 12 = .ok (.iconst 1, 1) := by decide +kernel
theorem d_C_finish_13 : decode c_C_finish 13 = .ok (.if_icmp .ne 10, 3) := by decide +kernel
theorem d_C_finish_16 : decode c_C_finish 16 = .ok (.aload_n 0, 1) := by decide +kernel
theorem d_C_finish_17 : decode c_C_finish 17 = .ok (.getfield 29, 3) := by decide +kernel
theorem d_C_finish_20 : decode c_C_finish 20 = .ok (.goto 4, 3) := by decide +kernel
theorem d_C_finish_23 : decode c_C_finish 23 = .ok (.iload_n 2, 1) := by decide +kernel
theorem d_C_finish_24 : decode c_C_finish 24 = .ok (.putfield 35, 3) := by decide +kernel
theorem d_C_finish_27 : decode c_C_finish 27 = .ok (.aload_n 0, 1) := by decide +kernel
theorem d_C_finish_28 : decode c_C_finish 28 = .ok (.getfield 25, 3) := by decide +kernel
theorem d_C_finish_31 : decode c_C_finish 31 = .ok (.ifCond .eq 29, 3) := by decide +kernel
theorem d_C_finish_34 : decode c_C_finish 34 = .ok (.aload_n 0, 1) := by decide +kernel
theorem d_C_finish_35 : decode c_C_finish 35 = .ok (.iload_n 1, 1) := by decide +kernel
theorem d_C_finish_36 : decode c_C_finish 36 = .ok (.aload_n 0, 1) := by decide +kernel
theorem d_C_finish_37 : decode c_C_finish 37 = .ok (.getfield 25, 3) := by decide +kernel
theorem d_C_finish_40 : decode c_C_finish 40 = .ok (.iconst 1, 1) := by decide +kernel
theorem d_C_finish_41 : decode c_C_finish 41 = .ok (.if_icmp .ne 10, 3) := by decide +kernel
theorem d_C_finish_44 : decode c_C_finish 44 = .ok (.aload_n 0, 1) := by decide +kernel
theorem d_C_finish_45 : decode c_C_finish 45 = .ok (.getfield 29, 3) := by decide +kernel
theorem d_C_finish_48 : decode c_C_finish 48 = .ok (.goto 9, 3) := by decide +kernel
theorem d_C_finish_51 : decode c_C_finish 51 = .ok (.iload_n 2, 1) := by decide +kernel
theorem d_C_finish_52 : decode c_C_finish 52 = .ok (.aload_n 0, 1) := by decide +kernel
theorem d_C_finish_53 : decode c_C_finish 53 = .ok (.getfield 29, 3) := by decide +kernel
theorem d_C_finish_56 : decode c_C_finish 56 = .ok (.iadd, 1) := by decide +kernel
theorem d_C_finish_57 : decode c_C_finish 57 = .ok (.invokevirtual 96, 3) := by decide +kernel
theorem d_C_finish_60 : decode c_C_finish 60 = .ok (.aload_n 0, 1) := by decide +kernel
theorem d_C_finish_61 : decode c_C_finish 61 = .ok (.dup, 1) := by decide +kernel
theorem d_C_finish_62 : decode c_C_finish 62 = .ok (.getfield 32, 3) := by decide +kernel
theorem d_C_finish_65 : decode c_C_finish 65 = .ok (.iconst 1, 1) := by decide +kernel
theorem d_C_finish_66 : decode c_C_finish 66 = .ok (.iadd, 1) := by decide +kernel
theorem d_C_finish_67 : decode c_C_finish 67 = .ok (.putfield 32, 3) := by decide +kernel
theorem d_C_finish_70 : decode c_C_finish 70 = .ok (.aload_n 0, 1) := by decide +kernel
theorem d_C_finish_71 : decode c_C_finish 71 = .ok (.iconst 0, 1) := by decide +kernel
theorem d_C_finish_72 : decode c_C_finish 72 = .ok (.putfield 21, 3) := by decide +kernel
theorem d_C_finish_75 : decode c_C_finish 75 = .ok (.return_, 1) := by decide +kernel
theorem d_C_change_0 : decode c_C_change 0 = .ok (.aload_n 0, 1) := by decide +kernel
theorem d_C_change_1 : decode c_C_change 1 = .ok (.getfield 15, 3) := by decide +kernel
theorem d_C_change_4 : decode c_C_change 4 = .ok (.iload_n 1, 1) := by decide +kernel
theorem d_C_change_5 : decode c_C_change 5 = .ok (.iload_n 2, 1) := by decide +kernel
theorem d_C_change_6 : decode c_C_change 6 = .ok (.iastore, 1) := by decide +kernel
theorem d_C_change_7 : decode c_C_change 7 = .ok (.aload_n 0, 1) := by decide +kernel
theorem d_C_change_8 : decode c_C_change 8 = .ok (.getfield 9, 3) := by decide +kernel
theorem d_C_change_11 : decode c_C_change 11 = .ok (.iload_n 1, 1) := by decide +kernel
theorem d_C_change_12 : decode c_C_change 12 = .ok (.iaload, 1) := by decide +kernel
theorem d_C_change_13 : decode c_C_change 13 = .ok (.iconst 2, 1) := by decide +kernel
theorem d_C_change_14 : decode c_C_change 14 = .ok (.if_icmp .ne 10, 3) := by decide +kernel
theorem d_C_change_17 : decode c_C_change 17 = .ok (.aload_n 0, 1) := by decide +kernel
theorem d_C_change_18 : decode c_C_change 18 = .ok (.getfield 9, 3) := by decide +kernel
theorem d_C_change_21 : decode c_C_change 21 = .ok (.iload_n 1, 1) := by decide +kernel
theorem d_C_change_22 : decode c_C_change 22 = .ok (.iconst 3, 1) := by decide +kernel
theorem d_C_change_23 : decode c_C_change 23 = .ok (.iastore, 1) := by decide +kernel
theorem d_C_change_24 : decode c_C_change 24 = .ok (.return_, 1) := by decide +kernel
theorem d_H_init_0 : decode c_H_init 0 = .ok (.aload_n 0, 1) := by decide +kernel
theorem d_H_init_1 : decode c_H_init 1 = .ok (.invokespecial 3, 3) := by decide +kernel
theorem d_H_init_4 : decode c_H_init 4 = .ok (.aload_n 0, 1) := by decide +kernel
theorem d_H_init_5 : decode c_H_init 5 = .ok (.iconst 4, 1) := by decide +kernel
theorem d_H_init_6 : decode c_H_init 6 = .ok (.newarray .int, 2) := by decide +kernel
theorem d_H_init_8 : decode c_H_init 8 = .ok (.putfield 9, 3) := by decide +kernel
theorem d_H_init_11 : decode c_H_init 11 = .ok (.aload_n 0, 1) := by decide +kernel
theorem d_H_init_12 : decode c_H_init 12 = .ok (.iconst 4, 1) := by decide +kernel
theorem d_H_init_13 : decode c_H_init 13 = .ok (.newarray .int, 2) := by decide +kernel
theorem d_H_init_15 : decode c_H_init 15 = .ok (.putfield 15, 3) := by decide +kernel
theorem d_H_init_18 : decode c_H_init 18 = .ok (.aload_n 0, 1) := by decide +kernel
theorem d_H_init_19 : decode c_H_init 19 = .ok (.iconst 4, 1) := by decide +kernel
theorem d_H_init_20 : decode c_H_init 20 = .ok (.newarray .int, 2) := by decide +kernel
theorem d_H_init_22 : decode c_H_init 22 = .ok (.putfield 18, 3) := by decide +kernel
theorem d_H_init_25 : decode c_H_init 25 = .ok (.aload_n 0, 1) := by decide +kernel
theorem d_H_init_26 : decode c_H_init 26 = .ok (.iconst 4, 1) := by decide +kernel
theorem d_H_init_27 : decode c_H_init 27 = .ok (.newarray .int, 2) := by decide +kernel
theorem d_H_init_29 : decode c_H_init 29 = .ok (.putfield 21, 3) := by decide +kernel
theorem d_H_init_32 : decode c_H_init 32 = .ok (.aload_n 0, 1) := by decide +kernel
theorem d_H_init_33 : decode c_H_init 33 = .ok (.aload_n 1, 1) := by decide +kernel
theorem d_H_init_34 : decode c_H_init 34 = .ok (.putfield 24, 3) := by decide +kernel
theorem d_H_init_37 : decode c_H_init 37 = .ok (.return_, 1) := by decide +kernel
theorem d_H_summary_0 : decode c_H_summary 0 = .ok (.aload_n 0, 1) := by decide +kernel
theorem d_H_summary_1 : decode c_H_summary 1 = .ok (.getfield 15, 3) := by decide +kernel
theorem d_H_summary_4 : decode c_H_summary 4 = .ok (.iload_n 1, 1) := by decide +kernel
theorem d_H_summary_5 : decode c_H_summary 5 = .ok (.iaload, 1) := by decide +kernel
theorem d_H_summary_6 : decode c_H_summary 6 = .ok (.iconst 2, 1) := by decide +kernel
theorem d_H_summary_7 : decode c_H_summary 7 = .ok (.if_icmp .ne 14, 3) := by decide +kernel
theorem d_H_summary_10 : decode c_H_summary 10 = .ok (.aload_n 0, 1) := by decide +kernel
theorem d_H_summary_11 : decode c_H_summary 11 = .ok (.getfield 18, 3) := by decide +kernel
theorem d_H_summary_14 : decode c_H_summary 14 = .ok (.iload_n 1, 1) := by decide +kernel
theorem d_H_summary_15 : decode c_H_summary 15 = .ok (.iaload, 1) := by decide +kernel
theorem d_H_summary_16 : decode c_H_summary 16 = .ok (.iconst 1, 1) := by decide +kernel
theorem d_H_summary_17 : decode c_H_summary 17 = .ok (.iadd, 1) := by decide +kernel
theorem d_H_summary_18 : decode c_H_summary 18 = .ok (.goto 4, 3) := by decide +kernel
theorem d_H_summary_21 : decode c_H_summary 21 = .ok (.iconst 0, 1) := by decide +kernel
theorem d_H_summary_22 : decode c_H_summary 22 = .ok (.istore_n 2, 1) := by decide +kernel
theorem d_H_summary_23 : decode c_H_summary 23 = .ok (.aload_n 0, 1) := by decide +kernel
theorem d_H_summary_24 : decode c_H_summary 24 = .ok (.getfield 15, 3) := by decide +kernel
theorem d_H_summary_27 : decode c_H_summary 27 = .ok (.iload_n 1, 1) := by decide +kernel
theorem d_H_summary_28 : decode c_H_summary 28 = .ok (.iaload, 1) := by decide +kernel
theorem d_H_summary_29 : decode c_H_summary 29 = .ok (.iconst 4, 1) := by decide +kernel
theorem d_H_summary_30 : decode c_H_summary 30 = .ok (.iload_n 2, 1) := by decide +kernel
theorem d_H_summary_31 : decode c_H_summary 31 = .ok (.imul, 1) := by decide +kernel
theorem d_H_summary_32 : decode c_H_summary 32 = .ok (.iadd, 1) := by decide +kernel
theorem d_H_summary_33 : decode c_H_summary 33 = .ok (.bipush 32, 2) := by decide +kernel
theorem d_H_summary_35 : decode c_H_summary 35 = .ok (.aload_n 0, 1) := by decide +kernel
theorem d_H_summary_36 : decode c_H_summary 36 = .ok (.getfield 21, 3) := by decide +kernel
theorem d_H_summary_39 : decode c_H_summary 39 = .ok (.iload_n 1, 1) := by decide +kernel
theorem d_H_summary_40 : decode c_H_summary 40 = .ok (.iaload, 1) := by decide +kernel
theorem d_H_summary_41 : decode c_H_summary 41 = .ok (.imul, 1) := by decide +kernel
theorem d_H_summary_42 : decode c_H_summary 42 = .ok (.iadd, 1) := by decide +kernel
theorem d_H_summary_43 : decode c_H_summary 43 = .ok (.ireturn, 1) := by decide +kernel
theorem d_H_stalls_0 : decode c_H_stalls 0 = .ok (.iload_n 1, 1) := by decide +kernel
theorem d_H_stalls_1 : decode c_H_stalls 1 = .ok (.ifCond .eq 8, 3) := by decide +kernel
theorem d_H_stalls_4 : decode c_H_stalls 4 = .ok (.iload_n 1, 1) := by decide +kernel
theorem d_H_stalls_5 : decode c_H_stalls 5 = .ok (.iconst 1, 1) := by decide +kernel
theorem d_H_stalls_6 : decode c_H_stalls 6 = .ok (.if_icmp .ne 17, 3) := by decide +kernel
theorem d_H_stalls_9 : decode c_H_stalls 9 = .ok (.aload_n 0, 1) := by decide +kernel
theorem d_H_stalls_10 : decode c_H_stalls 10 = .ok (.getfield 15, 3) := by decide +kernel
theorem d_H_stalls_13 : decode c_H_stalls 13 = .ok (.iload_n 2, 1) := by decide +kernel
theorem d_H_stalls_14 : decode c_H_stalls 14 = .ok (.iaload, 1) := by decide +kernel
theorem d_H_stalls_15 : decode c_H_stalls 15 = .ok (.iconst 3, 1) := by decide +kernel
theorem d_H_stalls_16 : decode c_H_stalls 16 = .ok (.if_icmp .ne 7, 3) := by decide +kernel
theorem d_H_stalls_19 : decode c_H_stalls 19 = .ok (.iconst 1, 1) := by decide +kernel
theorem d_H_stalls_20 : decode c_H_stalls 20 = .ok (.goto 4, 3) := by decide +kernel
theorem d_H_stalls_23 : decode c_H_stalls 23 = .ok (.iconst 0, 1) := by decide +kernel
theorem d_H_stalls_24 : decode c_H_stalls 24 = .ok (.ireturn, 1) := by decide +kernel
theorem d_H_take_0 : decode c_H_take 0 = .ok (.aload_n 0, 1) := by decide +kernel
theorem d_H_take_1 : decode c_H_take 1 = .ok (.getfield 24, 3) := by decide +kernel
theorem d_H_take_4 : decode c_H_take 4 = .ok (.iload_n 1, 1) := by decide +kernel
theorem d_H_take_5 : decode c_H_take 5 = .ok (.iconst 1, 1) := by decide +kernel
theorem d_H_take_6 : decode c_H_take 6 = .ok (.invokevirtual 28, 3) := by decide +kernel
theorem d_H_take_9 : decode c_H_take 9 = .ok (.istore_n 2, 1) := by decide +kernel
theorem d_H_take_10 : decode c_H_take 10 = .ok (.aload_n 0, 1) := by decide +kernel
theorem d_H_take_11 : decode c_H_take 11 = .ok (.getfield 24, 3) := by decide +kernel
theorem d_H_take_14 : decode c_H_take 14 = .ok (.iload_n 1, 1) := by decide +kernel
theorem d_H_take_15 : decode c_H_take 15 = .ok (.iconst 4, 1) := by decide +kernel
theorem d_H_take_16 : decode c_H_take 16 = .ok (.invokevirtual 28, 3) := by decide +kernel
theorem d_H_take_19 : decode c_H_take 19 = .ok (.istore_n 3, 1) := by decide +kernel
theorem d_H_take_20 : decode c_H_take 20 = .ok (.aload_n 0, 1) := by decide +kernel
theorem d_H_take_21 : decode c_H_take 21 = .ok (.getfield 24, 3) := by decide +kernel
theorem d_H_take_24 : decode c_H_take 24 = .ok (.iload_n 1, 1) := by decide +kernel
theorem d_H_take_25 : decode c_H_take 25 = .ok (.iconst 0, 1) := by decide +kernel
theorem d_H_take_26 : decode c_H_take 26 = .ok (.invokevirtual 28, 3) := by decide +kernel
theorem d_H_take_29 : decode c_H_take 29 = .ok (.tableswitch 122 0 9 #[55, 64, 73, 73, 73, 122, 122, 122, 122, 83], 55) := by decide +kernel
theorem d_H_take_84 : decode c_H_take 84 = .ok (.aload_n 0, 1) := by decide +kernel
theorem d_H_take_85 : decode c_H_take 85 = .ok (.iload_n 2, 1) := by decide +kernel
theorem d_H_take_86 : decode c_H_take 86 = .ok (.iload_n 3, 1) := by decide +kernel
theorem d_H_take_87 : decode c_H_take 87 = .ok (.invokevirtual 34, 3) := by decide +kernel
theorem d_H_take_90 : decode c_H_take 90 = .ok (.goto 61, 3) := by decide +kernel
theorem d_H_take_93 : decode c_H_take 93 = .ok (.aload_n 0, 1) := by decide +kernel
theorem d_H_take_94 : decode c_H_take 94 = .ok (.iload_n 2, 1) := by decide +kernel
theorem d_H_take_95 : decode c_H_take 95 = .ok (.iload_n 3, 1) := by decide +kernel
theorem d_H_take_96 : decode c_H_take 96 = .ok (.invokevirtual 38, 3) := by decide +kernel
theorem d_H_take_99 : decode c_H_take 99 = .ok (.goto 52, 3) := by decide +kernel
theorem d_H_take_102 : decode c_H_take 102 = .ok (.aload_n 0, 1) := by decide +kernel
theorem d_H_take_103 : decode c_H_take 103 = .ok (.iload_n 1, 1) := by decide +kernel
theorem d_H_take_104 : decode c_H_take 104 = .ok (.iload_n 2, 1) := by decide +kernel
theorem d_H_take_105 : decode c_H_take 105 = .ok (.iload_n 3, 1) := by decide +kernel
theorem d_H_take_106 : decode c_H_take 106 = .ok (.invokevirtual 41, 3) := by decide +kernel
theorem d_H_take_109 : decode c_H_take 109 = .ok (.goto 42, 3) := by decide +kernel
theorem d_H_take_112 : decode c_H_take 112 = .ok (.aload_n 0, 1) := by decide +kernel
theorem d_H_take_113 : decode c_H_take 113 = .ok (.getfield 9, 3) := by decide +kernel
theorem d_H_take_116 : decode c_H_take 116 = .ok (.iload_n 2, 1) := by decide +kernel
theorem d_H_take_117 : decode c_H_take 117 = .ok (.aload_n 0, 1) := by decide +kernel
theorem d_H_take_118 : decode c_H_take 118 = .ok (.getfield 24, 3) := by decide +kernel
theorem d_H_take_121 : decode c_H_take 121 = .ok (.iload_n 1, 1) := by decide +kernel
theorem d_H_take_122 : decode c_H_take 122 = .ok (.bipush 6, 2) := by decide +kernel
theorem d_H_take_124 : decode c_H_take 124 = .ok (.invokevirtual 28, 3) := by decide +kernel
theorem d_H_take_127 : decode c_H_take 127 = .ok (.iastore, 1) := by decide +kernel
theorem d_H_take_128 : decode c_H_take 128 = .ok (.aload_n 0, 1) := by decide +kernel
theorem d_H_take_129 : decode c_H_take 129 = .ok (.getfield 15, 3) := by decide +kernel
theorem d_H_take_132 : decode c_H_take 132 = .ok (.iload_n 2, 1) := by decide +kernel
theorem d_H_take_133 : decode c_H_take 133 = .ok (.aload_n 0, 1) := by decide +kernel
theorem d_H_take_134 : decode c_H_take 134 = .ok (.getfield 21, 3) := by decide +kernel
theorem d_H_take_137 : decode c_H_take 137 = .ok (.iload_n 2, 1) := by decide +kernel
theorem d_H_take_138 : decode c_H_take 138 = .ok (.iaload, 1) := by decide +kernel
theorem d_H_take_139 : decode c_H_take 139 = .ok (.ifCond .ne 7, 3) := by decide +kernel
theorem d_H_take_142 : decode c_H_take 142 = .ok (.iconst 0, 1) := by decide +kernel
theorem d_H_take_143 : decode c_H_take 143 = .ok (.goto 4, 3) := by decide +kernel
theorem d_H_take_146 : decode c_H_take 146 = .ok (.iconst 1, 1) := by decide +kernel
theorem d_H_take_147 : decode c_H_take 147 = .ok (.iastore, 1) := by decide +kernel
theorem d_H_take_148 : decode c_H_take 148 = .ok (.goto 3, 3) := by decide +kernel
theorem d_H_take_151 : decode c_H_take 151 = .ok (.return_, 1) := by decide +kernel
theorem d_H_takeRead_0 : decode c_H_takeRead 0 = .ok (.aload_n 0, 1) := by decide +kernel
theorem d_H_takeRead_1 : decode c_H_takeRead 1 = .ok (.getfield 15, 3) := by decide +kernel
theorem d_H_takeRead_4 : decode c_H_takeRead 4 = .ok (.iload_n 1, 1) := by decide +kernel
theorem d_H_takeRead_5 : decode c_H_takeRead 5 = .ok (.iaload, 1) := by decide +kernel
theorem d_H_takeRead_6 : decode c_H_takeRead 6 = .ok (.lookupswitch 91 #[(0, 26), (1, 55)], 26) := by decide +kernel
theorem d_H_takeRead_32 : decode c_H_takeRead 32 = .ok (.aload_n 0, 1) := by decide +kernel
theorem d_H_takeRead_33 : decode c_H_takeRead 33 = .ok (.getfield 24, 3) := by decide +kernel
theorem d_H_takeRead_36 : decode c_H_takeRead 36 = .ok (.bipush 10, 2) := by decide +kernel
theorem d_H_takeRead_38 : decode c_H_takeRead 38 = .ok (.iload_n 1, 1) := by decide +kernel
theorem d_H_takeRead_39 : decode c_H_takeRead 39 = .ok (.iconst 4, 1) := by decide +kernel
theorem d_H_takeRead_40 : decode c_H_takeRead 40 = .ok (.iload_n 2, 1) := by decide +kernel
theorem d_H_takeRead_41 : decode c_H_takeRead 41 = .ok (.iload_n 2, 1) := by decide +kernel
theorem d_H_takeRead_42 : decode c_H_takeRead 42 = .ok (.iconst 0, 1) := by decide +kernel
theorem d_H_takeRead_43 : decode c_H_takeRead 43 = .ok (.aload_n 0, 1) := by decide +kernel
theorem d_H_takeRead_44 : decode c_H_takeRead 44 = .ok (.getfield 9, 3) := by decide +kernel
theorem d_H_takeRead_47 : decode c_H_takeRead 47 = .ok (.iload_n 1, 1) := by decide +kernel
theorem d_H_takeRead_48 : decode c_H_takeRead 48 = .ok (.iaload, 1) := by decide +kernel
theorem d_H_takeRead_49 : decode c_H_takeRead 49 = .ok (.invokevirtual 45, 3) := by decide +kernel
theorem d_H_takeRead_52 : decode c_H_takeRead 52 = .ok (.aload_n 0, 1) := by decide +kernel
theorem d_H_takeRead_53 : decode c_H_takeRead 53 = .ok (.iload_n 2, 1) := by decide +kernel
theorem d_H_takeRead_54 : decode c_H_takeRead 54 = .ok (.iload_n 1, 1) := by decide +kernel
theorem d_H_takeRead_55 : decode c_H_takeRead 55 = .ok (.invokevirtual 49, 3) := by decide +kernel
theorem d_H_takeRead_58 : decode c_H_takeRead 58 = .ok (.goto 85, 3) := by decide +kernel
theorem d_H_takeRead_61 : decode c_H_takeRead 61 = .ok (.aload_n 0, 1) := by decide +kernel
theorem d_H_takeRead_62 : decode c_H_takeRead 62 = .ok (.getfield 24, 3) := by decide +kernel
theorem d_H_takeRead_65 : decode c_H_takeRead 65 = .ok (.bipush 9, 2) := by decide +kernel
theorem d_H_takeRead_67 : decode c_H_takeRead 67 = .ok (.iload_n 1, 1) := by decide +kernel
theorem d_H_takeRead_68 : decode c_H_takeRead 68 = .ok (.iconst 4, 1) := by decide +kernel
theorem d_H_takeRead_69 : decode c_H_takeRead 69 = .ok (.iload_n 2, 1) := by decide +kernel
theorem d_H_takeRead_70 : decode c_H_takeRead 70 = .ok (.iload_n 2, 1) := by decide +kernel
theorem d_H_takeRead_71 : decode c_H_takeRead 71 = .ok (.iconst 0, 1) := by decide +kernel
theorem d_H_takeRead_72 : decode c_H_takeRead 72 = .ok (.aload_n 0, 1) := by decide +kernel
theorem d_H_takeRead_73 : decode c_H_takeRead 73 = .ok (.getfield 9, 3) := by decide +kernel
theorem d_H_takeRead_76 : decode c_H_takeRead 76 = .ok (.iload_n 1, 1) := by decide +kernel
theorem d_H_takeRead_77 : decode c_H_takeRead 77 = .ok (.iaload, 1) := by decide +kernel
theorem d_H_takeRead_78 : decode c_H_takeRead 78 = .ok (.invokevirtual 45, 3) := by decide +kernel
theorem d_H_takeRead_81 : decode c_H_takeRead 81 = .ok (.aload_n 0, 1) := by decide +kernel
theorem d_H_takeRead_82 : decode c_H_takeRead 82 = .ok (.getfield 21, 3) := by decide +kernel
theorem d_H_takeRead_85 : decode c_H_takeRead 85 = .ok (.iload_n 1, 1) := by decide +kernel
theorem d_H_takeRead_86 : decode c_H_takeRead 86 = .ok (.dup2, 1) := by decide +kernel
theorem d_H_takeRead_87 : decode c_H_takeRead 87 = .ok (.iaload, 1) := by decide +kernel
theorem d_H_takeRead_88 : decode c_H_takeRead 88 = .ok (.iload_n 2, 1) := by decide +kernel
theorem d_H_takeRead_89 : decode c_H_takeRead 89 = .ok (.invokestatic 52, 3) := by decide +kernel
theorem d_H_takeRead_92 : decode c_H_takeRead 92 = .ok (.ior, 1) := by decide +kernel
theorem d_H_takeRead_93 : decode c_H_takeRead 93 = .ok (.iastore, 1) := by decide +kernel
theorem d_H_takeRead_94 : decode c_H_takeRead 94 = .ok (.goto 49, 3) := by decide +kernel
theorem d_H_takeRead_97 : decode c_H_takeRead 97 = .ok (.aload_n 0, 1) := by decide +kernel
theorem d_H_takeRead_98 : decode c_H_takeRead 98 = .ok (.getfield 24, 3) := by decide +kernel
theorem d_H_takeRead_101 : decode c_H_takeRead 101 = .ok (.iconst 5, 1) := by decide +kernel
theorem d_H_takeRead_102 : decode c_H_takeRead 102 = .ok (.iload_n 1, 1) := by decide +kernel
theorem d_H_takeRead_103 : decode c_H_takeRead 103 = .ok (.iconst 4, 1) := by decide +kernel
theorem d_H_takeRead_104 : decode c_H_takeRead 104 = .ok (.aload_n 0, 1) := by decide +kernel
theorem d_H_takeRead_105 : decode c_H_takeRead 105 = .ok (.getfield 18, 3) := by decide +kernel
theorem d_H_takeRead_108 : decode c_H_takeRead 108 = .ok (.iload_n 1, 1) := by decide +kernel
theorem d_H_takeRead_109 : decode c_H_takeRead 109 = .ok (.iaload, 1) := by decide +kernel
theorem d_H_takeRead_110 : decode c_H_takeRead 110 = .ok (.iload_n 2, 1) := by decide +kernel
theorem d_H_takeRead_111 : decode c_H_takeRead 111 = .ok (.iconst 0, 1) := by decide +kernel
theorem d_H_takeRead_112 : decode c_H_takeRead 112 = .ok (.iconst 0, 1) := by decide +kernel
theorem d_H_takeRead_113 : decode c_H_takeRead 113 = .ok (.invokevirtual 45, 3) := by decide +kernel
theorem d_H_takeRead_116 : decode c_H_takeRead 116 = .ok (.aload_n 0, 1) := by decide +kernel
theorem d_H_takeRead_117 : decode c_H_takeRead 117 = .ok (.getfield 21, 3) := by decide +kernel
theorem d_H_takeRead_120 : decode c_H_takeRead 120 = .ok (.iload_n 1, 1) := by decide +kernel
theorem d_H_takeRead_121 : decode c_H_takeRead 121 = .ok (.aload_n 0, 1) := by decide +kernel
theorem d_H_takeRead_122 : decode c_H_takeRead 122 = .ok (.getfield 18, 3) := by decide +kernel
theorem d_H_takeRead_125 : decode c_H_takeRead 125 = .ok (.iload_n 1, 1) := by decide +kernel
theorem d_H_takeRead_126 : decode c_H_takeRead 126 = .ok (.iaload, 1) := by decide +kernel
theorem d_H_takeRead_127 : decode c_H_takeRead 127 = .ok (.invokestatic 52, 3) := by decide +kernel
theorem d_H_takeRead_130 : decode c_H_takeRead 130 = .ok (.iload_n 2, 1) := by decide +kernel
theorem d_H_takeRead_131 : decode c_H_takeRead 131 = .ok (.invokestatic 52, 3) := by decide +kernel
theorem d_H_takeRead_134 : decode c_H_takeRead 134 = .ok (.ior, 1) := by decide +kernel
theorem d_H_takeRead_135 : decode c_H_takeRead 135 = .ok (.iastore, 1) := by decide +kernel
theorem d_H_takeRead_136 : decode c_H_takeRead 136 = .ok (.aload_n 0, 1) := by decide +kernel
theorem d_H_takeRead_137 : decode c_H_takeRead 137 = .ok (.getfield 15, 3) := by decide +kernel
theorem d_H_takeRead_140 : decode c_H_takeRead 140 = .ok (.iload_n 1, 1) := by decide +kernel
theorem d_H_takeRead_141 : decode c_H_takeRead 141 = .ok (.iconst 3, 1) := by decide +kernel
theorem d_H_takeRead_142 : decode c_H_takeRead 142 = .ok (.iastore, 1) := by decide +kernel
theorem d_H_takeRead_143 : decode c_H_takeRead 143 = .ok (.return_, 1) := by decide +kernel
theorem d_H_takeWrite_0 : decode c_H_takeWrite 0 = .ok (.aload_n 0, 1) := by decide +kernel
theorem d_H_takeWrite_1 : decode c_H_takeWrite 1 = .ok (.getfield 15, 3) := by decide +kernel
theorem d_H_takeWrite_4 : decode c_H_takeWrite 4 = .ok (.iload_n 1, 1) := by decide +kernel
theorem d_H_takeWrite_5 : decode c_H_takeWrite 5 = .ok (.iaload, 1) := by decide +kernel
theorem d_H_takeWrite_6 : decode c_H_takeWrite 6 = .ok (.lookupswitch 58 #[(0, 26), (1, 49)], 26) := by decide +kernel
theorem d_H_takeWrite_32 : decode c_H_takeWrite 32 = .ok (.aload_n 0, 1) := by decide +kernel
theorem d_H_takeWrite_33 : decode c_H_takeWrite 33 = .ok (.getfield 24, 3) := by decide +kernel
theorem d_H_takeWrite_36 : decode c_H_takeWrite 36 = .ok (.bipush 9, 2) := by decide +kernel
theorem d_H_takeWrite_38 : decode c_H_takeWrite 38 = .ok (.iload_n 1, 1) := by decide +kernel
theorem d_H_takeWrite_39 : decode c_H_takeWrite 39 = .ok (.iconst 4, 1) := by decide +kernel
theorem d_H_takeWrite_40 : decode c_H_takeWrite 40 = .ok (.iload_n 2, 1) := by decide +kernel
theorem d_H_takeWrite_41 : decode c_H_takeWrite 41 = .ok (.iload_n 2, 1) := by decide +kernel
theorem d_H_takeWrite_42 : decode c_H_takeWrite 42 = .ok (.iconst 0, 1) := by decide +kernel
theorem d_H_takeWrite_43 : decode c_H_takeWrite 43 = .ok (.aload_n 0, 1) := by decide +kernel
theorem d_H_takeWrite_44 : decode c_H_takeWrite 44 = .ok (.getfield 9, 3) := by decide +kernel
theorem d_H_takeWrite_47 : decode c_H_takeWrite 47 = .ok (.iload_n 1, 1) := by decide +kernel
theorem d_H_takeWrite_48 : decode c_H_takeWrite 48 = .ok (.iaload, 1) := by decide +kernel
theorem d_H_takeWrite_49 : decode c_H_takeWrite 49 = .ok (.invokevirtual 45, 3) := by decide +kernel
theorem d_H_takeWrite_52 : decode c_H_takeWrite 52 = .ok (.goto 32, 3) := by decide +kernel
theorem d_H_takeWrite_55 : decode c_H_takeWrite 55 = .ok (.aload_n 0, 1) := by decide +kernel
theorem d_H_takeWrite_56 : decode c_H_takeWrite 56 = .ok (.iload_n 1, 1) := by decide +kernel
theorem d_H_takeWrite_57 : decode c_H_takeWrite 57 = .ok (.iload_n 2, 1) := by decide +kernel
theorem d_H_takeWrite_58 : decode c_H_takeWrite 58 = .ok (.invokevirtual 56, 3) := by decide +kernel
theorem d_H_takeWrite_61 : decode c_H_takeWrite 61 = .ok (.goto 23, 3) := by decide +kernel
theorem d_H_takeWrite_64 : decode c_H_takeWrite 64 = .ok (.aload_n 0, 1) := by decide +kernel
theorem d_H_takeWrite_65 : decode c_H_takeWrite 65 = .ok (.getfield 24, 3) := by decide +kernel
theorem d_H_takeWrite_68 : decode c_H_takeWrite 68 = .ok (.bipush 6, 2) := by decide +kernel
theorem d_H_takeWrite_70 : decode c_H_takeWrite 70 = .ok (.iload_n 1, 1) := by decide +kernel
theorem d_H_takeWrite_71 : decode c_H_takeWrite 71 = .ok (.iconst 4, 1) := by decide +kernel
theorem d_H_takeWrite_72 : decode c_H_takeWrite 72 = .ok (.aload_n 0, 1) := by decide +kernel
theorem d_H_takeWrite_73 : decode c_H_takeWrite 73 = .ok (.getfield 18, 3) := by decide +kernel
theorem d_H_takeWrite_76 : decode c_H_takeWrite 76 = .ok (.iload_n 1, 1) := by decide +kernel
theorem d_H_takeWrite_77 : decode c_H_takeWrite 77 = .ok (.iaload, 1) := by decide +kernel
theorem d_H_takeWrite_78 : decode c_H_takeWrite 78 = .ok (.iload_n 2, 1) := by decide +kernel
theorem d_H_takeWrite_79 : decode c_H_takeWrite 79 = .ok (.iconst 0, 1) := by decide +kernel
theorem d_H_takeWrite_80 : decode c_H_takeWrite 80 = .ok (.iconst 0, 1) := by decide +kernel
theorem d_H_takeWrite_81 : decode c_H_takeWrite 81 = .ok (.invokevirtual 45, 3) := by decide +kernel
theorem d_H_takeWrite_84 : decode c_H_takeWrite 84 = .ok (.aload_n 0, 1) := by decide +kernel
theorem d_H_takeWrite_85 : decode c_H_takeWrite 85 = .ok (.iload_n 2, 1) := by decide +kernel
theorem d_H_takeWrite_86 : decode c_H_takeWrite 86 = .ok (.iload_n 1, 1) := by decide +kernel
theorem d_H_takeWrite_87 : decode c_H_takeWrite 87 = .ok (.invokevirtual 49, 3) := by decide +kernel
theorem d_H_takeWrite_90 : decode c_H_takeWrite 90 = .ok (.return_, 1) := by decide +kernel
theorem d_H_dropOthers_0 : decode c_H_dropOthers 0 = .ok (.aload_n 0, 1) := by decide +kernel
theorem d_H_dropOthers_1 : decode c_H_dropOthers 1 = .ok (.getfield 21, 3) := by decide +kernel
theorem d_H_dropOthers_4 : decode c_H_dropOthers 4 = .ok (.iload_n 1, 1) := by decide +kernel
theorem d_H_dropOthers_5 : decode c_H_dropOthers 5 = .ok (.iaload, 1) := by decide +kernel
theorem d_H_dropOthers_6 : decode c_H_dropOthers 6 = .ok (.iload_n 2, 1) := by decide +kernel
theorem d_H_dropOthers_7 : decode c_H_dropOthers 7 = .ok (.invokestatic 52, 3) := by decide +kernel
theorem d_H_dropOthers_10 : decode c_H_dropOthers 10 = .ok (.iconst (-1), 1) := by decide +kernel
theorem d_H_dropOthers_11 : decode c_H_dropOthers 11 = .ok (.ixor, 1) := by decide +kernel
theorem d_H_dropOthers_12 : decode c_H_dropOthers 12 = .ok (.iand, 1) := by decide +kernel
theorem d_H_dropOthers_13 : decode c_H_dropOthers 13 = .ok (.istore_n 3, 1) := by decide +kernel
theorem d_H_dropOthers_14 : decode c_H_dropOthers 14 = .ok (.aload_n 0, 1) := by decide +kernel
theorem d_H_dropOthers_15 : decode c_H_dropOthers 15 = .ok (.getfield 24, 3) := by decide +kernel
theorem d_H_dropOthers_18 : decode c_H_dropOthers 18 = .ok (.bipush 9, 2) := by decide +kernel
theorem d_H_dropOthers_20 : decode c_H_dropOthers 20 = .ok (.iload_n 1, 1) := by decide +kernel
theorem d_H_dropOthers_21 : decode c_H_dropOthers 21 = .ok (.iconst 4, 1) := by decide +kernel
theorem d_H_dropOthers_22 : decode c_H_dropOthers 22 = .ok (.iload_n 2, 1) := by decide +kernel
theorem d_H_dropOthers_23 : decode c_H_dropOthers 23 = .ok (.iload_n 2, 1) := by decide +kernel
theorem d_H_dropOthers_24 : decode c_H_dropOthers 24 = .ok (.iload_n 3, 1) := by decide +kernel
theorem d_H_dropOthers_25 : decode c_H_dropOthers 25 = .ok (.invokestatic 59, 3) := by decide +kernel
theorem d_H_dropOthers_28 : decode c_H_dropOthers 28 = .ok (.aload_n 0, 1) := by decide +kernel
theorem d_H_dropOthers_29 : decode c_H_dropOthers 29 = .ok (.getfield 9, 3) := by decide +kernel
theorem d_H_dropOthers_32 : decode c_H_dropOthers 32 = .ok (.iload_n 1, 1) := by decide +kernel
theorem d_H_dropOthers_33 : decode c_H_dropOthers 33 = .ok (.iaload, 1) := by decide +kernel
theorem d_H_dropOthers_34 : decode c_H_dropOthers 34 = .ok (.invokevirtual 45, 3) := by decide +kernel
theorem d_H_dropOthers_37 : decode c_H_dropOthers 37 = .ok (.iconst 0, 1) := by decide +kernel
theorem d_H_dropOthers_38 : decode c_H_dropOthers 38 = .ok (.istore 4, 2) := by decide +kernel
theorem d_H_dropOthers_40 : decode c_H_dropOthers 40 = .ok (.iload 4, 2) := by decide +kernel
theorem d_H_dropOthers_42 : decode c_H_dropOthers 42 = .ok (.iconst 4, 1) := by decide +kernel
theorem d_H_dropOthers_43 : decode c_H_dropOthers 43 = .ok (.if_icmp .ge 35, 3) := by decide +kernel
theorem d_H_dropOthers_46 : decode c_H_dropOthers 46 = .ok (.iload_n 3, 1) := by decide +kernel
theorem d_H_dropOthers_47 : decode c_H_dropOthers 47 = .ok (.iload 4, 2) := by decide +kernel
theorem d_H_dropOthers_49 : decode c_H_dropOthers 49 = .ok (.invokestatic 52, 3) := by decide +kernel
theorem d_H_dropOthers_52 : decode c_H_dropOthers 52 = .ok (.iand, 1) := by decide +kernel
theorem d_H_dropOthers_53 : decode c_H_dropOthers 53 = .ok (.ifCond .eq 19, 3) := by decide +kernel
theorem d_H_dropOthers_56 : decode c_H_dropOthers 56 = .ok (.aload_n 0, 1) := by decide +kernel
theorem d_H_dropOthers_57 : decode c_H_dropOthers 57 = .ok (.getfield 24, 3) := by decide +kernel
theorem d_H_dropOthers_60 : decode c_H_dropOthers 60 = .ok (.bipush 7, 2) := by decide +kernel
theorem d_H_dropOthers_62 : decode c_H_dropOthers 62 = .ok (.iload_n 1, 1) := by decide +kernel
theorem d_H_dropOthers_63 : decode c_H_dropOthers 63 = .ok (.iconst 4, 1) := by decide +kernel
theorem d_H_dropOthers_64 : decode c_H_dropOthers 64 = .ok (.iload 4, 2) := by decide +kernel
theorem d_H_dropOthers_66 : decode c_H_dropOthers 66 = .ok (.iload_n 2, 1) := by decide +kernel
theorem d_H_dropOthers_67 : decode c_H_dropOthers 67 = .ok (.iconst 0, 1) := by decide +kernel
theorem d_H_dropOthers_68 : decode c_H_dropOthers 68 = .ok (.iconst 0, 1) := by decide +kernel
theorem d_H_dropOthers_69 : decode c_H_dropOthers 69 = .ok (.invokevirtual 45, 3) := by decide +kernel
theorem d_H_dropOthers_72 : decode c_H_dropOthers 72 = .ok (.iinc 4 1, 3) := by decide +kernel
theorem d_H_dropOthers_75 : decode c_H_dropOthers 75 = .ok (.goto (-35), 3) := by decide +kernel
theorem d_H_dropOthers_78 : decode c_H_dropOthers 78 = .ok (.aload_n 0, 1) := by decide +kernel
theorem d_H_dropOthers_79 : decode c_H_dropOthers 79 = .ok (.getfield 21, 3) := by decide +kernel
theorem d_H_dropOthers_82 : decode c_H_dropOthers 82 = .ok (.iload_n 1, 1) := by decide +kernel
theorem d_H_dropOthers_83 : decode c_H_dropOthers 83 = .ok (.iconst 0, 1) := by decide +kernel
theorem d_H_dropOthers_84 : decode c_H_dropOthers 84 = .ok (.iastore, 1) := by decide +kernel
theorem d_H_dropOthers_85 : decode c_H_dropOthers 85 = .ok (.return_, 1) := by decide +kernel
theorem d_H_takeLeave_0 : decode c_H_takeLeave 0 = .ok (.aload_n 0, 1) := by decide +kernel
theorem d_H_takeLeave_1 : decode c_H_takeLeave 1 = .ok (.getfield 15, 3) := by decide +kernel
theorem d_H_takeLeave_4 : decode c_H_takeLeave 4 = .ok (.iload_n 2, 1) := by decide +kernel
theorem d_H_takeLeave_5 : decode c_H_takeLeave 5 = .ok (.iaload, 1) := by decide +kernel
theorem d_H_takeLeave_6 : decode c_H_takeLeave 6 = .ok (.iconst 2, 1) := by decide +kernel
theorem d_H_takeLeave_7 : decode c_H_takeLeave 7 = .ok (.if_icmp .ne 52, 3) := by decide +kernel
theorem d_H_takeLeave_10 : decode c_H_takeLeave 10 = .ok (.aload_n 0, 1) := by decide +kernel
theorem d_H_takeLeave_11 : decode c_H_takeLeave 11 = .ok (.getfield 18, 3) := by decide +kernel
theorem d_H_takeLeave_14 : decode c_H_takeLeave 14 = .ok (.iload_n 2, 1) := by decide +kernel
theorem d_H_takeLeave_15 : decode c_H_takeLeave 15 = .ok (.iaload, 1) := by decide +kernel
theorem d_H_takeLeave_16 : decode c_H_takeLeave 16 = .ok (.iload_n 3, 1) := by decide +kernel
theorem d_H_takeLeave_17 : decode c_H_takeLeave 17 = .ok (.if_icmp .ne 42, 3) := by decide +kernel
theorem d_H_takeLeave_20 : decode c_H_takeLeave 20 = .ok (.aload_n 0, 1) := by decide +kernel
theorem d_H_takeLeave_21 : decode c_H_takeLeave 21 = .ok (.getfield 24, 3) := by decide +kernel
theorem d_H_takeLeave_24 : decode c_H_takeLeave 24 = .ok (.iload_n 1, 1) := by decide +kernel
theorem d_H_takeLeave_25 : decode c_H_takeLeave 25 = .ok (.iconst 0, 1) := by decide +kernel
theorem d_H_takeLeave_26 : decode c_H_takeLeave 26 = .ok (.invokevirtual 28, 3) := by decide +kernel
theorem d_H_takeLeave_29 : decode c_H_takeLeave 29 = .ok (.iconst 4, 1) := by decide +kernel
theorem d_H_takeLeave_30 : decode c_H_takeLeave 30 = .ok (.if_icmp .ne 19, 3) := by decide +kernel
theorem d_H_takeLeave_33 : decode c_H_takeLeave 33 = .ok (.aload_n 0, 1) := by decide +kernel
theorem d_H_takeLeave_34 : decode c_H_takeLeave 34 = .ok (.getfield 9, 3) := by decide +kernel
theorem d_H_takeLeave_37 : decode c_H_takeLeave 37 = .ok (.iload_n 2, 1) := by decide +kernel
theorem d_H_takeLeave_38 : decode c_H_takeLeave 38 = .ok (.aload_n 0, 1) := by decide +kernel
theorem d_H_takeLeave_39 : decode c_H_takeLeave 39 = .ok (.getfield 24, 3) := by decide +kernel
theorem d_H_takeLeave_42 : decode c_H_takeLeave 42 = .ok (.iload_n 1, 1) := by decide +kernel
theorem d_H_takeLeave_43 : decode c_H_takeLeave 43 = .ok (.bipush 6, 2) := by decide +kernel
theorem d_H_takeLeave_45 : decode c_H_takeLeave 45 = .ok (.invokevirtual 28, 3) := by decide +kernel
theorem d_H_takeLeave_48 : decode c_H_takeLeave 48 = .ok (.iastore, 1) := by decide +kernel
theorem d_H_takeLeave_49 : decode c_H_takeLeave 49 = .ok (.aload_n 0, 1) := by decide +kernel
theorem d_H_takeLeave_50 : decode c_H_takeLeave 50 = .ok (.getfield 15, 3) := by decide +kernel
theorem d_H_takeLeave_53 : decode c_H_takeLeave 53 = .ok (.iload_n 2, 1) := by decide +kernel
theorem d_H_takeLeave_54 : decode c_H_takeLeave 54 = .ok (.iconst 0, 1) := by decide +kernel
theorem d_H_takeLeave_55 : decode c_H_takeLeave 55 = .ok (.iastore, 1) := by decide +kernel
theorem d_H_takeLeave_56 : decode c_H_takeLeave 56 = .ok (.goto 9, 3) := by decide +kernel
theorem d_H_takeLeave_59 : decode c_H_takeLeave 59 = .ok (.aload_n 0, 1) := by decide +kernel
theorem d_H_takeLeave_60 : decode c_H_takeLeave 60 = .ok (.iload_n 2, 1) := by decide +kernel
theorem d_H_takeLeave_61 : decode c_H_takeLeave 61 = .ok (.iload_n 3, 1) := by decide +kernel
theorem d_H_takeLeave_62 : decode c_H_takeLeave 62 = .ok (.invokevirtual 64, 3) := by decide +kernel
theorem d_H_takeLeave_65 : decode c_H_takeLeave 65 = .ok (.aload_n 0, 1) := by decide +kernel
theorem d_H_takeLeave_66 : decode c_H_takeLeave 66 = .ok (.getfield 24, 3) := by decide +kernel
theorem d_H_takeLeave_69 : decode c_H_takeLeave 69 = .ok (.bipush 8, 2) := by decide +kernel
theorem d_H_takeLeave_71 : decode c_H_takeLeave 71 = .ok (.iload_n 2, 1) := by decide +kernel
theorem d_H_takeLeave_72 : decode c_H_takeLeave 72 = .ok (.iconst 4, 1) := by decide +kernel
theorem d_H_takeLeave_73 : decode c_H_takeLeave 73 = .ok (.iload_n 3, 1) := by decide +kernel
theorem d_H_takeLeave_74 : decode c_H_takeLeave 74 = .ok (.iload_n 3, 1) := by decide +kernel
theorem d_H_takeLeave_75 : decode c_H_takeLeave 75 = .ok (.iconst 0, 1) := by decide +kernel
theorem d_H_takeLeave_76 : decode c_H_takeLeave 76 = .ok (.iconst 0, 1) := by decide +kernel
theorem d_H_takeLeave_77 : decode c_H_takeLeave 77 = .ok (.invokevirtual 45, 3) := by decide +kernel
theorem d_H_takeLeave_80 : decode c_H_takeLeave 80 = .ok (.return_, 1) := by decide +kernel
theorem d_H_forgetSharer_0 : decode c_H_forgetSharer 0 = .ok (.aload_n 0, 1) := by decide +kernel
theorem d_H_forgetSharer_1 : decode c_H_forgetSharer 1 = .ok (.getfield 21, 3) := by decide +kernel
theorem d_H_forgetSharer_4 : decode c_H_forgetSharer 4 = .ok (.iload_n 1, 1) := by decide +kernel
theorem d_H_forgetSharer_5 : decode c_H_forgetSharer 5 = .ok (.dup2, 1) := by decide +kernel
theorem d_H_forgetSharer_6 : decode c_H_forgetSharer 6 = .ok (.iaload, 1) := by decide +kernel
theorem d_H_forgetSharer_7 : decode c_H_forgetSharer 7 = .ok (.iload_n 2, 1) := by decide +kernel
theorem d_H_forgetSharer_8 : decode c_H_forgetSharer 8 = .ok (.invokestatic 52, 3) := by decide +kernel
theorem d_H_forgetSharer_11 : decode c_H_forgetSharer 11 = .ok (.iconst (-1), 1) := by decide +kernel
theorem d_H_forgetSharer_12 : decode c_H_forgetSharer 12 = .ok (.ixor, 1) := by decide +kernel
theorem d_H_forgetSharer_13 : decode c_H_forgetSharer 13 = .ok (.iand, 1) := by decide +kernel
theorem d_H_forgetSharer_14 : decode c_H_forgetSharer 14 = .ok (.iastore, 1) := by decide +kernel
theorem d_H_forgetSharer_15 : decode c_H_forgetSharer 15 = .ok (.aload_n 0, 1) := by decide +kernel
theorem d_H_forgetSharer_16 : decode c_H_forgetSharer 16 = .ok (.getfield 15, 3) := by decide +kernel
theorem d_H_forgetSharer_19 : decode c_H_forgetSharer 19 = .ok (.iload_n 1, 1) := by decide +kernel
theorem d_H_forgetSharer_20 : decode c_H_forgetSharer 20 = .ok (.iaload, 1) := by decide +kernel
theorem d_H_forgetSharer_21 : decode c_H_forgetSharer 21 = .ok (.iconst 1, 1) := by decide +kernel
theorem d_H_forgetSharer_22 : decode c_H_forgetSharer 22 = .ok (.if_icmp .ne 19, 3) := by decide +kernel
theorem d_H_forgetSharer_25 : decode c_H_forgetSharer 25 = .ok (.aload_n 0, 1) := by decide +kernel
theorem d_H_forgetSharer_26 : decode c_H_forgetSharer 26 = .ok (.getfield 21, 3) := by decide +kernel
theorem d_H_forgetSharer_29 : decode c_H_forgetSharer 29 = .ok (.iload_n 1, 1) := by decide +kernel
theorem d_H_forgetSharer_30 : decode c_H_forgetSharer 30 = .ok (.iaload, 1) := by decide +kernel
theorem d_H_forgetSharer_31 : decode c_H_forgetSharer 31 = .ok (.ifCond .ne 10, 3) := by decide +kernel
theorem d_H_forgetSharer_34 : decode c_H_forgetSharer 34 = .ok (.aload_n 0, 1) := by decide +kernel
theorem d_H_forgetSharer_35 : decode c_H_forgetSharer 35 = .ok (.getfield 15, 3) := by decide +kernel
theorem d_H_forgetSharer_38 : decode c_H_forgetSharer 38 = .ok (.iload_n 1, 1) := by decide +kernel
theorem d_H_forgetSharer_39 : decode c_H_forgetSharer 39 = .ok (.iconst 0, 1) := by decide +kernel
theorem d_H_forgetSharer_40 : decode c_H_forgetSharer 40 = .ok (.iastore, 1) := by decide +kernel
theorem d_H_forgetSharer_41 : decode c_H_forgetSharer 41 = .ok (.return_, 1) := by decide +kernel
theorem d_H_makeOwner_0 : decode c_H_makeOwner 0 = .ok (.aload_n 0, 1) := by decide +kernel
theorem d_H_makeOwner_1 : decode c_H_makeOwner 1 = .ok (.getfield 18, 3) := by decide +kernel
theorem d_H_makeOwner_4 : decode c_H_makeOwner 4 = .ok (.iload_n 2, 1) := by decide +kernel
theorem d_H_makeOwner_5 : decode c_H_makeOwner 5 = .ok (.iload_n 1, 1) := by decide +kernel
theorem d_H_makeOwner_6 : decode c_H_makeOwner 6 = .ok (.iastore, 1) := by decide +kernel
theorem d_H_makeOwner_7 : decode c_H_makeOwner 7 = .ok (.aload_n 0, 1) := by decide +kernel
theorem d_H_makeOwner_8 : decode c_H_makeOwner 8 = .ok (.getfield 15, 3) := by decide +kernel
theorem d_H_makeOwner_11 : decode c_H_makeOwner 11 = .ok (.iload_n 2, 1) := by decide +kernel
theorem d_H_makeOwner_12 : decode c_H_makeOwner 12 = .ok (.iconst 2, 1) := by decide +kernel
theorem d_H_makeOwner_13 : decode c_H_makeOwner 13 = .ok (.iastore, 1) := by decide +kernel
theorem d_H_makeOwner_14 : decode c_H_makeOwner 14 = .ok (.return_, 1) := by decide +kernel
theorem d_H_bit_0 : decode c_H_bit 0 = .ok (.iconst 1, 1) := by decide +kernel
theorem d_H_bit_1 : decode c_H_bit 1 = .ok (.iload_n 0, 1) := by decide +kernel
theorem d_H_bit_2 : decode c_H_bit 2 = .ok (.ishl, 1) := by decide +kernel
theorem d_H_bit_3 : decode c_H_bit 3 = .ok (.ireturn, 1) := by decide +kernel
end
section
theorem d_M_init_0 : decode c_M_init 0 = .ok (.aload_n 0, 1) := by decide +kernel
theorem d_M_init_1 : decode c_M_init 1 = .ok (.invokespecial 1, 3) := by decide +kernel
theorem d_M_init_4 : decode c_M_init 4 = .ok (.aload_n 0, 1) := by decide +kernel
theorem d_M_init_5 : decode c_M_init 5 = .ok (.bipush 16, 2) := by decide +kernel
theorem d_M_init_7 : decode c_M_init 7 = .ok (.newarray .int, 2) := by decide +kernel
theorem d_M_init_9 : decode c_M_init 9 = .ok (.putfield 7, 3) := by decide +kernel
theorem d_M_init_12 : decode c_M_init 12 = .ok (.aload_n 0, 1) := by decide +kernel
theorem d_M_init_13 : decode c_M_init 13 = .ok (.bipush 16, 2) := by decide +kernel
theorem d_M_init_15 : decode c_M_init 15 = .ok (.newarray .int, 2) := by decide +kernel
theorem d_M_init_17 : decode c_M_init 17 = .ok (.putfield 13, 3) := by decide +kernel
theorem d_M_init_20 : decode c_M_init 20 = .ok (.aload_n 0, 1) := by decide +kernel
theorem d_M_init_21 : decode c_M_init 21 = .ok (.bipush 16, 2) := by decide +kernel
theorem d_M_init_23 : decode c_M_init 23 = .ok (.newarray .int, 2) := by decide +kernel
theorem d_M_init_25 : decode c_M_init 25 = .ok (.putfield 16, 3) := by decide +kernel
theorem d_M_init_28 : decode c_M_init 28 = .ok (.aload_n 0, 1) := by decide +kernel
theorem d_M_init_29 : decode c_M_init 29 = .ok (.bipush 16, 2) := by decide +kernel
theorem d_M_init_31 : decode c_M_init 31 = .ok (.newarray .int, 2) := by decide +kernel
theorem d_M_init_33 : decode c_M_init 33 = .ok (.putfield 19, 3) := by decide +kernel
theorem d_M_init_36 : decode c_M_init 36 = .ok (.aload_n 0, 1) := by decide +kernel
theorem d_M_init_37 : decode c_M_init 37 = .ok (.bipush 16, 2) := by decide +kernel
theorem d_M_init_39 : decode c_M_init 39 = .ok (.newarray .int, 2) := by decide +kernel
theorem d_M_init_41 : decode c_M_init 41 = .ok (.putfield 22, 3) := by decide +kernel
theorem d_M_init_44 : decode c_M_init 44 = .ok (.aload_n 0, 1) := by decide +kernel
theorem d_M_init_45 : decode c_M_init 45 = .ok (.iconst 4, 1) := by decide +kernel
theorem d_M_init_46 : decode c_M_init 46 = .ok (.newarray .boolean, 2) := by decide +kernel
theorem d_M_init_48 : decode c_M_init 48 = .ok (.putfield 25, 3) := by decide +kernel
theorem d_M_init_51 : decode c_M_init 51 = .ok (.aload_n 0, 1) := by decide +kernel
theorem d_M_init_52 : decode c_M_init 52 = .ok (.iconst 4, 1) := by decide +kernel
theorem d_M_init_53 : decode c_M_init 53 = .ok (.newarray .int, 2) := by decide +kernel
theorem d_M_init_55 : decode c_M_init 55 = .ok (.putfield 29, 3) := by decide +kernel
theorem d_M_init_58 : decode c_M_init 58 = .ok (.aload_n 0, 1) := by decide +kernel
theorem d_M_init_59 : decode c_M_init 59 = .ok (.iconst 4, 1) := by decide +kernel
theorem d_M_init_60 : decode c_M_init 60 = .ok (.newarray .int, 2) := by decide +kernel
theorem d_M_init_62 : decode c_M_init 62 = .ok (.putfield 32, 3) := by decide +kernel
theorem d_M_init_65 : decode c_M_init 65 = .ok (.aload_n 0, 1) := by decide +kernel
theorem d_M_init_66 : decode c_M_init 66 = .ok (.iconst 4, 1) := by decide +kernel
theorem d_M_init_67 : decode c_M_init 67 = .ok (.newarray .int, 2) := by decide +kernel
theorem d_M_init_69 : decode c_M_init 69 = .ok (.putfield 35, 3) := by decide +kernel
theorem d_M_init_72 : decode c_M_init 72 = .ok (.aload_n 0, 1) := by decide +kernel
theorem d_M_init_73 : decode c_M_init 73 = .ok (.iconst 4, 1) := by decide +kernel
theorem d_M_init_74 : decode c_M_init 74 = .ok (.newarray .int, 2) := by decide +kernel
theorem d_M_init_76 : decode c_M_init 76 = .ok (.putfield 38, 3) := by decide +kernel
theorem d_M_init_79 : decode c_M_init 79 = .ok (.aload_n 0, 1) := by decide +kernel
theorem d_M_init_80 : decode c_M_init 80 = .ok (.iconst 4, 1) := by decide +kernel
theorem d_M_init_81 : decode c_M_init 81 = .ok (.newarray .int, 2) := by decide +kernel
theorem d_M_init_83 : decode c_M_init 83 = .ok (.putfield 41, 3) := by decide +kernel
theorem d_M_init_86 : decode c_M_init 86 = .ok (.aload_n 0, 1) := by decide +kernel
theorem d_M_init_87 : decode c_M_init 87 = .ok (.iconst 4, 1) := by decide +kernel
theorem d_M_init_88 : decode c_M_init 88 = .ok (.newarray .int, 2) := by decide +kernel
theorem d_M_init_90 : decode c_M_init 90 = .ok (.putfield 44, 3) := by decide +kernel
theorem d_M_init_93 : decode c_M_init 93 = .ok (.aload_n 0, 1) := by decide +kernel
theorem d_M_init_94 : decode c_M_init 94 = .ok (.iconst 4, 1) := by decide +kernel
theorem d_M_init_95 : decode c_M_init 95 = .ok (.newarray .int, 2) := by decide +kernel
theorem d_M_init_97 : decode c_M_init 97 = .ok (.putfield 47, 3) := by decide +kernel
theorem d_M_init_100 : decode c_M_init 100 = .ok (.aload_n 0, 1) := by decide +kernel
theorem d_M_init_101 : decode c_M_init 101 = .ok (.iconst 4, 1) := by decide +kernel
theorem d_M_init_102 : decode c_M_init 102 = .ok (.newarray .int, 2) := by decide +kernel
theorem d_M_init_104 : decode c_M_init 104 = .ok (.putfield 50, 3) := by decide +kernel
theorem d_M_init_107 : decode c_M_init 107 = .ok (.aload_n 0, 1) := by decide +kernel
theorem d_M_init_108 : decode c_M_init 108 = .ok (.iconst 4, 1) := by decide +kernel
theorem d_M_init_109 : decode c_M_init 109 = .ok (.newarray .int, 2) := by decide +kernel
theorem d_M_init_111 : decode c_M_init 111 = .ok (.putfield 53, 3) := by decide +kernel
theorem d_M_init_114 : decode c_M_init 114 = .ok (.aload_n 0, 1) := by decide +kernel
theorem d_M_init_115 : decode c_M_init 115 = .ok (.sipush 200, 3) := by decide +kernel
theorem d_M_init_118 : decode c_M_init 118 = .ok (.newarray .int, 2) := by decide +kernel
theorem d_M_init_120 : decode c_M_init 120 = .ok (.putfield 56, 3) := by decide +kernel
theorem d_M_init_123 : decode c_M_init 123 = .ok (.aload_n 0, 1) := by decide +kernel
theorem d_M_init_124 : decode c_M_init 124 = .ok (.sipush 200, 3) := by decide +kernel
theorem d_M_init_127 : decode c_M_init 127 = .ok (.newarray .int, 2) := by decide +kernel
theorem d_M_init_129 : decode c_M_init 129 = .ok (.putfield 59, 3) := by decide +kernel
theorem d_M_init_132 : decode c_M_init 132 = .ok (.aload_n 0, 1) := by decide +kernel
theorem d_M_init_133 : decode c_M_init 133 = .ok (.sipush 200, 3) := by decide +kernel
theorem d_M_init_136 : decode c_M_init 136 = .ok (.newarray .int, 2) := by decide +kernel
theorem d_M_init_138 : decode c_M_init 138 = .ok (.putfield 62, 3) := by decide +kernel
theorem d_M_init_141 : decode c_M_init 141 = .ok (.aload_n 0, 1) := by decide +kernel
theorem d_M_init_142 : decode c_M_init 142 = .ok (.sipush 200, 3) := by decide +kernel
theorem d_M_init_145 : decode c_M_init 145 = .ok (.newarray .int, 2) := by decide +kernel
theorem d_M_init_147 : decode c_M_init 147 = .ok (.putfield 65, 3) := by decide +kernel
theorem d_M_init_150 : decode c_M_init 150 = .ok (.aload_n 0, 1) := by decide +kernel
theorem d_M_init_151 : decode c_M_init 151 = .ok (.sipush 200, 3) := by decide +kernel
theorem d_M_init_154 : decode c_M_init 154 = .ok (.newarray .int, 2) := by decide +kernel
theorem d_M_init_156 : decode c_M_init 156 = .ok (.putfield 68, 3) := by decide +kernel
theorem d_M_init_159 : decode c_M_init 159 = .ok (.aload_n 0, 1) := by decide +kernel
theorem d_M_init_160 : decode c_M_init 160 = .ok (.sipush 200, 3) := by decide +kernel
theorem d_M_init_163 : decode c_M_init 163 = .ok (.newarray .int, 2) := by decide +kernel
theorem d_M_init_165 : decode c_M_init 165 = .ok (.putfield 71, 3) := by decide +kernel
theorem d_M_init_168 : decode c_M_init 168 = .ok (.aload_n 0, 1) := by decide +kernel
theorem d_M_init_169 : decode c_M_init 169 = .ok (.sipush 200, 3) := by decide +kernel
theorem d_M_init_172 : decode c_M_init 172 = .ok (.newarray .int, 2) := by decide +kernel
theorem d_M_init_174 : decode c_M_init 174 = .ok (.putfield 74, 3) := by decide +kernel
theorem d_M_init_177 : decode c_M_init 177 = .ok (.return_, 1) := by decide +kernel
theorem d_M_isFour_0 : decode c_M_isFour 0 = .ok (.iload_n 0, 1) := by decide +kernel
theorem d_M_isFour_1 : decode c_M_isFour 1 = .ok (.ifCond .lt 12, 3) := by decide +kernel
theorem d_M_isFour_4 : decode c_M_isFour 4 = .ok (.iload_n 0, 1) := by decide +kernel
theorem d_M_isFour_5 : decode c_M_isFour 5 = .ok (.iconst 3, 1) := by decide +kernel
theorem d_M_isFour_6 : decode c_M_isFour 6 = .ok (.if_icmp .gt 7, 3) := by decide +kernel
theorem d_M_isFour_9 : decode c_M_isFour 9 = .ok (.iconst 1, 1) := by decide +kernel
theorem d_M_isFour_10 : decode c_M_isFour 10 = .ok (.goto 4, 3) := by decide +kernel
theorem d_M_isFour_13 : decode c_M_isFour 13 = .ok (.iconst 0, 1) := by decide +kernel
theorem d_M_isFour_14 : decode c_M_isFour 14 = .ok (.ireturn, 1) := by decide +kernel
theorem d_M_send_0 : decode c_M_send 0 = .ok (.aload_n 0, 1) := by decide +kernel
theorem d_M_send_1 : decode c_M_send 1 = .ok (.iload_n 1, 1) := by decide +kernel
theorem d_M_send_2 : decode c_M_send 2 = .ok (.iload_n 2, 1) := by decide +kernel
theorem d_M_send_3 : decode c_M_send 3 = .ok (.iload_n 3, 1) := by decide +kernel
theorem d_M_send_4 : decode c_M_send 4 = .ok (.iload 4, 2) := by decide +kernel
theorem d_M_send_6 : decode c_M_send 6 = .ok (.iload 5, 2) := by decide +kernel
theorem d_M_send_8 : decode c_M_send 8 = .ok (.iload 6, 2) := by decide +kernel
theorem d_M_send_10 : decode c_M_send 10 = .ok (.iconst 0, 1) := by decide +kernel
theorem d_M_send_11 : decode c_M_send 11 = .ok (.invokevirtual 77, 3) := by decide +kernel
theorem d_M_send_14 : decode c_M_send 14 = .ok (.return_, 1) := by decide +kernel
theorem d_M_sendWith_0 : decode c_M_sendWith 0 = .ok (.aload_n 0, 1) := by decide +kernel
theorem d_M_sendWith_1 : decode c_M_sendWith 1 = .ok (.getfield 56, 3) := by decide +kernel
theorem d_M_sendWith_4 : decode c_M_sendWith 4 = .ok (.aload_n 0, 1) := by decide +kernel
theorem d_M_sendWith_5 : decode c_M_sendWith 5 = .ok (.getfield 81, 3) := by decide +kernel
theorem d_M_sendWith_8 : decode c_M_sendWith 8 = .ok (.iload_n 1, 1) := by decide +kernel
theorem d_M_sendWith_9 : decode c_M_sendWith 9 = .ok (.iastore, 1) := by decide +kernel
theorem d_M_sendWith_10 : decode c_M_sendWith 10 = .ok (.aload_n 0, 1) := by decide +kernel
theorem d_M_sendWith_11 : decode c_M_sendWith 11 = .ok (.getfield 59, 3) := by decide +kernel
theorem d_M_sendWith_14 : decode c_M_sendWith 14 = .ok (.aload_n 0, 1) := by decide +kernel
theorem d_M_sendWith_15 : decode c_M_sendWith 15 = .ok (.getfield 81, 3) := by decide +kernel
theorem d_M_sendWith_18 : decode c_M_sendWith 18 = .ok (.iload_n 2, 1) := by decide +kernel
theorem d_M_sendWith_19 : decode c_M_sendWith 19 = .ok (.iastore, 1) := by decide +kernel
theorem d_M_sendWith_20 : decode c_M_sendWith 20 = .ok (.aload_n 0, 1) := by decide +kernel
theorem d_M_sendWith_21 : decode c_M_sendWith 21 = .ok (.getfield 62, 3) := by decide +kernel
theorem d_M_sendWith_24 : decode c_M_sendWith 24 = .ok (.aload_n 0, 1) := by decide +kernel
theorem d_M_sendWith_25 : decode c_M_sendWith 25 = .ok (.getfield 81, 3) := by decide +kernel
theorem d_M_sendWith_28 : decode c_M_sendWith 28 = .ok (.iload_n 3, 1) := by decide +kernel
theorem d_M_sendWith_29 : decode c_M_sendWith 29 = .ok (.iastore, 1) := by decide +kernel
theorem d_M_sendWith_30 : decode c_M_sendWith 30 = .ok (.aload_n 0, 1) := by decide +kernel
theorem d_M_sendWith_31 : decode c_M_sendWith 31 = .ok (.getfield 65, 3) := by decide +kernel
theorem d_M_sendWith_34 : decode c_M_sendWith 34 = .ok (.aload_n 0, 1) := by decide +kernel
theorem d_M_sendWith_35 : decode c_M_sendWith 35 = .ok (.getfield 81, 3) := by decide +kernel
theorem d_M_sendWith_38 : decode c_M_sendWith 38 = .ok (.iload 4, 2) := by decide +kernel
theorem d_M_sendWith_40 : decode c_M_sendWith 40 = .ok (.iastore, 1) := by decide +kernel
theorem d_M_sendWith_41 : decode c_M_sendWith 41 = .ok (.aload_n 0, 1) := by decide +kernel
theorem d_M_sendWith_42 : decode c_M_sendWith 42 = .ok (.getfield 68, 3) := by decide +kernel
theorem d_M_sendWith_45 : decode c_M_sendWith 45 = .ok (.aload_n 0, 1) := by decide +kernel
theorem d_M_sendWith_46 : decode c_M_sendWith 46 = .ok (.getfield 81, 3) := by decide +kernel
theorem d_M_sendWith_49 : decode c_M_sendWith 49 = .ok (.iload 5, 2) := by decide +kernel
theorem d_M_sendWith_51 : decode c_M_sendWith 51 = .ok (.iastore, 1) := by decide +kernel
theorem d_M_sendWith_52 : decode c_M_sendWith 52 = .ok (.aload_n 0, 1) := by decide +kernel
theorem d_M_sendWith_53 : decode c_M_sendWith 53 = .ok (.getfield 71, 3) := by decide +kernel
theorem d_M_sendWith_56 : decode c_M_sendWith 56 = .ok (.aload_n 0, 1) := by decide +kernel
theorem d_M_sendWith_57 : decode c_M_sendWith 57 = .ok (.getfield 81, 3) := by decide +kernel
theorem d_M_sendWith_60 : decode c_M_sendWith 60 = .ok (.iload 6, 2) := by decide +kernel
theorem d_M_sendWith_62 : decode c_M_sendWith 62 = .ok (.iastore, 1) := by decide +kernel
theorem d_M_sendWith_63 : decode c_M_sendWith 63 = .ok (.aload_n 0, 1) := by decide +kernel
theorem d_M_sendWith_64 : decode c_M_sendWith 64 = .ok (.getfield 74, 3) := by decide +kernel
theorem d_M_sendWith_67 : decode c_M_sendWith 67 = .ok (.aload_n 0, 1) := by decide +kernel
theorem d_M_sendWith_68 : decode c_M_sendWith 68 = .ok (.getfield 81, 3) := by decide +kernel
theorem d_M_sendWith_71 : decode c_M_sendWith 71 = .ok (.iload 7, 2) := by decide +kernel
theorem d_M_sendWith_73 : decode c_M_sendWith 73 = .ok (.iastore, 1) := by decide +kernel
theorem d_M_sendWith_74 : decode c_M_sendWith 74 = .ok (.aload_n 0, 1) := by decide +kernel
theorem d_M_sendWith_75 : decode c_M_sendWith 75 = .ok (.dup, 1) := by decide +kernel
theorem d_M_sendWith_76 : decode c_M_sendWith 76 = .ok (.getfield 81, 3) := by decide +kernel
theorem d_M_sendWith_79 : decode c_M_sendWith 79 = .ok (.iconst 1, 1) := by decide +kernel
theorem d_M_sendWith_80 : decode c_M_sendWith 80 = .ok (.iadd, 1) := by decide +kernel
theorem d_M_sendWith_81 : decode c_M_sendWith 81 = .ok (.putfield 81, 3) := by decide +kernel
theorem d_M_sendWith_84 : decode c_M_sendWith 84 = .ok (.aload_n 0, 1) := by decide +kernel
theorem d_M_sendWith_85 : decode c_M_sendWith 85 = .ok (.getfield 22, 3) := by decide +kernel
theorem d_M_sendWith_88 : decode c_M_sendWith 88 = .ok (.iconst 4, 1) := by decide +kernel
theorem d_M_sendWith_89 : decode c_M_sendWith 89 = .ok (.iload 5, 2) := by decide +kernel
theorem d_M_sendWith_91 : decode c_M_sendWith 91 = .ok (.imul, 1) := by decide +kernel
theorem d_M_sendWith_92 : decode c_M_sendWith 92 = .ok (.iload_n 2, 1) := by decide +kernel
theorem d_M_sendWith_93 : decode c_M_sendWith 93 = .ok (.iadd, 1) := by decide +kernel
theorem d_M_sendWith_94 : decode c_M_sendWith 94 = .ok (.iload_n 1, 1) := by decide +kernel
theorem d_M_sendWith_95 : decode c_M_sendWith 95 = .ok (.iconst 5, 1) := by decide +kernel
theorem d_M_sendWith_96 : decode c_M_sendWith 96 = .ok (.if_icmp .ge 7, 3) := by decide +kernel
theorem d_M_sendWith_99 : decode c_M_sendWith 99 = .ok (.iconst 1, 1) := by decide +kernel
theorem d_M_sendWith_100 : decode c_M_sendWith 100 = .ok (.goto 16, 3) := by decide +kernel
theorem d_M_sendWith_103 : decode c_M_sendWith 103 = .ok (.aload_n 0, 1) := by decide +kernel
theorem d_M_sendWith_104 : decode c_M_sendWith 104 = .ok (.getfield 22, 3) := by decide +kernel
theorem d_M_sendWith_107 : decode c_M_sendWith 107 = .ok (.iconst 4, 1) := by decide +kernel
theorem d_M_sendWith_108 : decode c_M_sendWith 108 = .ok (.iload 5, 2) := by decide +kernel
theorem d_M_sendWith_110 : decode c_M_sendWith 110 = .ok (.imul, 1) := by decide +kernel
theorem d_M_sendWith_111 : decode c_M_sendWith 111 = .ok (.iload_n 2, 1) := by decide +kernel
theorem d_M_sendWith_112 : decode c_M_sendWith 112 = .ok (.iadd, 1) := by decide +kernel
theorem d_M_sendWith_113 : decode c_M_sendWith 113 = .ok (.iaload, 1) := by decide +kernel
theorem d_M_sendWith_114 : decode c_M_sendWith 114 = .ok (.iconst 1, 1) := by decide +kernel
theorem d_M_sendWith_115 : decode c_M_sendWith 115 = .ok (.iadd, 1) := by decide +kernel
theorem d_M_sendWith_116 : decode c_M_sendWith 116 = .ok (.iastore, 1) := by decide +kernel
theorem d_M_sendWith_117 : decode c_M_sendWith 117 = .ok (.return_, 1) := by decide +kernel
theorem d_M_strike_0 : decode c_M_strike 0 = .ok (.aload_n 0, 1) := by decide +kernel
theorem d_M_strike_1 : decode c_M_strike 1 = .ok (.dup, 1) := by decide +kernel
theorem d_M_strike_2 : decode c_M_strike 2 = .ok (.getfield 81, 3) := by decide +kernel
theorem d_M_strike_5 : decode c_M_strike 5 = .ok (.iconst 1, 1) := by decide +kernel
theorem d_M_strike_6 : decode c_M_strike 6 = .ok (.isub, 1) := by decide +kernel
theorem d_M_strike_7 : decode c_M_strike 7 = .ok (.putfield 81, 3) := by decide +kernel
theorem d_M_strike_10 : decode c_M_strike 10 = .ok (.iload_n 1, 1) := by decide +kernel
theorem d_M_strike_11 : decode c_M_strike 11 = .ok (.istore_n 2, 1) := by decide +kernel
theorem d_M_strike_12 : decode c_M_strike 12 = .ok (.iload_n 2, 1) := by decide +kernel
theorem d_M_strike_13 : decode c_M_strike 13 = .ok (.aload_n 0, 1) := by decide +kernel
theorem d_M_strike_14 : decode c_M_strike 14 = .ok (.getfield 81, 3) := by decide +kernel
theorem d_M_strike_17 : decode c_M_strike 17 = .ok (.if_icmp .ge 107, 3) := by decide +kernel
theorem d_M_strike_20 : decode c_M_strike 20 = .ok (.aload_n 0, 1) := by decide +kernel
theorem d_M_strike_21 : decode c_M_strike 21 = .ok (.getfield 56, 3) := by decide +kernel
theorem d_M_strike_24 : decode c_M_strike 24 = .ok (.iload_n 2, 1) := by decide +kernel
theorem d_M_strike_25 : decode c_M_strike 25 = .ok (.aload_n 0, 1) := by decide +kernel
theorem d_M_strike_26 : decode c_M_strike 26 = .ok (.getfield 56, 3) := by decide +kernel
theorem d_M_strike_29 : decode c_M_strike 29 = .ok (.iload_n 2, 1) := by decide +kernel
theorem d_M_strike_30 : decode c_M_strike 30 = .ok (.iconst 1, 1) := by decide +kernel
theorem d_M_strike_31 : decode c_M_strike 31 = .ok (.iadd, 1) := by decide +kernel
theorem d_M_strike_32 : decode c_M_strike 32 = .ok (.iaload, 1) := by decide +kernel
theorem d_M_strike_33 : decode c_M_strike 33 = .ok (.iastore, 1) := by decide +kernel
theorem d_M_strike_34 : decode c_M_strike 34 = .ok (.aload_n 0, 1) := by decide +kernel
theorem d_M_strike_35 : decode c_M_strike 35 = .ok (.getfield 59, 3) := by decide +kernel
theorem d_M_strike_38 : decode c_M_strike 38 = .ok (.iload_n 2, 1) := by decide +kernel
theorem d_M_strike_39 : decode c_M_strike 39 = .ok (.aload_n 0, 1) := by decide +kernel
theorem d_M_strike_40 : decode c_M_strike 40 = .ok (.getfield 59, 3) := by decide +kernel
theorem d_M_strike_43 : decode c_M_strike 43 = .ok (.iload_n 2, 1) := by decide +kernel
theorem d_M_strike_44 : decode c_M_strike 44 = .ok (.iconst 1, 1) := by decide +kernel
theorem d_M_strike_45 : decode c_M_strike 45 = .ok (.iadd, 1) := by decide +kernel
theorem d_M_strike_46 : decode c_M_strike 46 = .ok (.iaload, 1) := by decide +kernel
theorem d_M_strike_47 : decode c_M_strike 47 = .ok (.iastore, 1) := by decide +kernel
theorem d_M_strike_48 : decode c_M_strike 48 = .ok (.aload_n 0, 1) := by decide +kernel
theorem d_M_strike_49 : decode c_M_strike 49 = .ok (.getfield 62, 3) := by decide +kernel
theorem d_M_strike_52 : decode c_M_strike 52 = .ok (.iload_n 2, 1) := by decide +kernel
theorem d_M_strike_53 : decode c_M_strike 53 = .ok (.aload_n 0, 1) := by decide +kernel
theorem d_M_strike_54 : decode c_M_strike 54 = .ok (.getfield 62, 3) := by decide +kernel
theorem d_M_strike_57 : decode c_M_strike 57 = .ok (.iload_n 2, 1) := by decide +kernel
theorem d_M_strike_58 : decode c_M_strike 58 = .ok (.iconst 1, 1) := by decide +kernel
theorem d_M_strike_59 : decode c_M_strike 59 = .ok (.iadd, 1) := by decide +kernel
theorem d_M_strike_60 : decode c_M_strike 60 = .ok (.iaload, 1) := by decide +kernel
theorem d_M_strike_61 : decode c_M_strike 61 = .ok (.iastore, 1) := by decide +kernel
theorem d_M_strike_62 : decode c_M_strike 62 = .ok (.aload_n 0, 1) := by decide +kernel
theorem d_M_strike_63 : decode c_M_strike 63 = .ok (.getfield 65, 3) := by decide +kernel
theorem d_M_strike_66 : decode c_M_strike 66 = .ok (.iload_n 2, 1) := by decide +kernel
theorem d_M_strike_67 : decode c_M_strike 67 = .ok (.aload_n 0, 1) := by decide +kernel
theorem d_M_strike_68 : decode c_M_strike 68 = .ok (.getfield 65, 3) := by decide +kernel
theorem d_M_strike_71 : decode c_M_strike 71 = .ok (.iload_n 2, 1) := by decide +kernel
theorem d_M_strike_72 : decode c_M_strike 72 = .ok (.iconst 1, 1) := by decide +kernel
theorem d_M_strike_73 : decode c_M_strike 73 = .ok (.iadd, 1) := by decide +kernel
theorem d_M_strike_74 : decode c_M_strike 74 = .ok (.iaload, 1) := by decide +kernel
theorem d_M_strike_75 : decode c_M_strike 75 = .ok (.iastore, 1) := by decide +kernel
theorem d_M_strike_76 : decode c_M_strike 76 = .ok (.aload_n 0, 1) := by decide +kernel
theorem d_M_strike_77 : decode c_M_strike 77 = .ok (.getfield 68, 3) := by decide +kernel
theorem d_M_strike_80 : decode c_M_strike 80 = .ok (.iload_n 2, 1) := by decide +kernel
theorem d_M_strike_81 : decode c_M_strike 81 = .ok (.aload_n 0, 1) := by decide +kernel
theorem d_M_strike_82 : decode c_M_strike 82 = .ok (.getfield 68, 3) := by decide +kernel
theorem d_M_strike_85 : decode c_M_strike 85 = .ok (.iload_n 2, 1) := by decide +kernel
theorem d_M_strike_86 : decode c_M_strike 86 = .ok (.iconst 1, 1) := by decide +kernel
theorem d_M_strike_87 : decode c_M_strike 87 = .ok (.iadd, 1) := by decide +kernel
theorem d_M_strike_88 : decode c_M_strike 88 = .ok (.iaload, 1) := by decide +kernel
theorem d_M_strike_89 : decode c_M_strike 89 = .ok (.iastore, 1) := by decide +kernel
theorem d_M_strike_90 : decode c_M_strike 90 = .ok (.aload_n 0, 1) := by decide +kernel
theorem d_M_strike_91 : decode c_M_strike 91 = .ok (.getfield 71, 3) := by decide +kernel
theorem d_M_strike_94 : decode c_M_strike 94 = .ok (.iload_n 2, 1) := by decide +kernel
theorem d_M_strike_95 : decode c_M_strike 95 = .ok (.aload_n 0, 1) := by decide +kernel
theorem d_M_strike_96 : decode c_M_strike 96 = .ok (.getfield 71, 3) := by decide +kernel
theorem d_M_strike_99 : decode c_M_strike 99 = .ok (.iload_n 2, 1) := by decide +kernel
theorem d_M_strike_100 : decode c_M_strike 100 = .ok (.iconst 1, 1) := by decide +kernel
theorem d_M_strike_101 : decode c_M_strike 101 = .ok (.iadd, 1) := by decide +kernel
theorem d_M_strike_102 : decode c_M_strike 102 = .ok (.iaload, 1) := by decide +kernel
theorem d_M_strike_103 : decode c_M_strike 103 = .ok (.iastore, 1) := by decide +kernel
theorem d_M_strike_104 : decode c_M_strike 104 = .ok (.aload_n 0, 1) := by decide +kernel
theorem d_M_strike_105 : decode c_M_strike 105 = .ok (.getfield 74, 3) := by decide +kernel
theorem d_M_strike_108 : decode c_M_strike 108 = .ok (.iload_n 2, 1) := by decide +kernel
theorem d_M_strike_109 : decode c_M_strike 109 = .ok (.aload_n 0, 1) := by decide +kernel
theorem d_M_strike_110 : decode c_M_strike 110 = .ok (.getfield 74, 3) := by decide +kernel
theorem d_M_strike_113 : decode c_M_strike 113 = .ok (.iload_n 2, 1) := by decide +kernel
theorem d_M_strike_114 : decode c_M_strike 114 = .ok (.iconst 1, 1) := by decide +kernel
theorem d_M_strike_115 : decode c_M_strike 115 = .ok (.iadd, 1) := by decide +kernel
theorem d_M_strike_116 : decode c_M_strike 116 = .ok (.iaload, 1) := by decide +kernel
theorem d_M_strike_117 : decode c_M_strike 117 = .ok (.iastore, 1) := by decide +kernel
theorem d_M_strike_118 : decode c_M_strike 118 = .ok (.iinc 2 1, 3) := by decide +kernel
theorem d_M_strike_121 : decode c_M_strike 121 = .ok (.goto (-109), 3) := by decide +kernel
theorem d_M_strike_124 : decode c_M_strike 124 = .ok (.return_, 1) := by decide +kernel
theorem d_M_isOrdered_0 : decode c_M_isOrdered 0 = .ok (.iload_n 0, 1) := by decide +kernel
theorem d_M_isOrdered_1 : decode c_M_isOrdered 1 = .ok (.iconst 4, 1) := by decide +kernel
theorem d_M_isOrdered_2 : decode c_M_isOrdered 2 = .ok (.if_icmp .le 13, 3) := by decide +kernel
theorem d_M_isOrdered_5 : decode c_M_isOrdered 5 = .ok (.iload_n 0, 1) := by decide +kernel
theorem d_M_isOrdered_6 : decode c_M_isOrdered 6 = .ok (.bipush 9, 2) := by decide +kernel
theorem d_M_isOrdered_8 : decode c_M_isOrdered 8 = .ok (.if_icmp .ge 7, 3) := by decide +kernel
theorem d_M_isOrdered_11 : decode c_M_isOrdered 11 = .ok (.iconst 1, 1) := by decide +kernel
theorem d_M_isOrdered_12 : decode c_M_isOrdered 12 = .ok (.goto 4, 3) := by decide +kernel
theorem d_M_isOrdered_15 : decode c_M_isOrdered 15 = .ok (.iconst 0, 1) := by decide +kernel
theorem d_M_isOrdered_16 : decode c_M_isOrdered 16 = .ok (.ireturn, 1) := by decide +kernel
theorem d_M_keptBack_0 : decode c_M_keptBack 0 = .ok (.iconst 0, 1) := by decide +kernel
theorem d_M_keptBack_1 : decode c_M_keptBack 1 = .ok (.istore_n 2, 1) := by decide +kernel
theorem d_M_keptBack_2 : decode c_M_keptBack 2 = .ok (.iconst 0, 1) := by decide +kernel
theorem d_M_keptBack_3 : decode c_M_keptBack 3 = .ok (.istore_n 3, 1) := by decide +kernel
theorem d_M_keptBack_4 : decode c_M_keptBack 4 = .ok (.iload_n 3, 1) := by decide +kernel
theorem d_M_keptBack_5 : decode c_M_keptBack 5 = .ok (.iload_n 1, 1) := by decide +kernel
theorem d_M_keptBack_6 : decode c_M_keptBack 6 = .ok (.if_icmp .ge 61, 3) := by decide +kernel
theorem d_M_keptBack_9 : decode c_M_keptBack 9 = .ok (.iload_n 2, 1) := by decide +kernel
theorem d_M_keptBack_10 : decode c_M_keptBack 10 = .ok (.ifCond .ne 45, 3) := by decide +kernel
theorem d_M_keptBack_13 : decode c_M_keptBack 13 = .ok (.aload_n 0, 1) := by decide +kernel
theorem d_M_keptBack_14 : decode c_M_keptBack 14 = .ok (.getfield 56, 3) := by decide +kernel
theorem d_M_keptBack_17 : decode c_M_keptBack 17 = .ok (.iload_n 3, 1) := by decide +kernel
theorem d_M_keptBack_18 : decode c_M_keptBack 18 = .ok (.iaload, 1) := by decide +kernel
theorem d_M_keptBack_19 : decode c_M_keptBack 19 = .ok (.invokestatic 85, 3) := by decide +kernel
theorem d_M_keptBack_22 : decode c_M_keptBack 22 = .ok (.ifCond .eq 37, 3) := by decide +kernel
theorem d_M_keptBack_25 : decode c_M_keptBack 25 = .ok (.aload_n 0, 1) := by decide +kernel
theorem d_M_keptBack_26 : decode c_M_keptBack 26 = .ok (.getfield 59, 3) := by decide +kernel
theorem d_M_keptBack_29 : decode c_M_keptBack 29 = .ok (.iload_n 3, 1) := by decide +kernel
theorem d_M_keptBack_30 : decode c_M_keptBack 30 = .ok (.iaload, 1) := by decide +kernel
theorem d_M_keptBack_31 : decode c_M_keptBack 31 = .ok (.aload_n 0, 1) := by decide +kernel
theorem d_M_keptBack_32 : decode c_M_keptBack 32 = .ok (.getfield 59, 3) := by decide +kernel
theorem d_M_keptBack_35 : decode c_M_keptBack 35 = .ok (.iload_n 1, 1) := by decide +kernel
theorem d_M_keptBack_36 : decode c_M_keptBack 36 = .ok (.iaload, 1) := by decide +kernel
theorem d_M_keptBack_37 : decode c_M_keptBack 37 = .ok (.if_icmp .ne 22, 3) := by decide +kernel
theorem d_M_keptBack_40 : decode c_M_keptBack 40 = .ok (.aload_n 0, 1) := by decide +kernel
theorem d_M_keptBack_41 : decode c_M_keptBack 41 = .ok (.getfield 65, 3) := by decide +kernel
theorem d_M_keptBack_44 : decode c_M_keptBack 44 = .ok (.iload_n 3, 1) := by decide +kernel
theorem d_M_keptBack_45 : decode c_M_keptBack 45 = .ok (.iaload, 1) := by decide +kernel
theorem d_M_keptBack_46 : decode c_M_keptBack 46 = .ok (.aload_n 0, 1) := by decide +kernel
theorem d_M_keptBack_47 : decode c_M_keptBack 47 = .ok (.getfield 65, 3) := by decide +kernel
theorem d_M_keptBack_50 : decode c_M_keptBack 50 = .ok (.iload_n 1, 1) := by decide +kernel
theorem d_M_keptBack_51 : decode c_M_keptBack 51 = .ok (.iaload, 1) := by decide +kernel
theorem d_M_keptBack_52 : decode c_M_keptBack 52 = .ok (.if_icmp .ne 7, 3) := by decide +kernel
theorem d_M_keptBack_55 : decode c_M_keptBack 55 = .ok (.iconst 1, 1) := by decide +kernel
theorem d_M_keptBack_56 : decode c_M_keptBack 56 = .ok (.goto 4, 3) := by decide +kernel
theorem d_M_keptBack_59 : decode c_M_keptBack 59 = .ok (.iconst 0, 1) := by decide +kernel
theorem d_M_keptBack_60 : decode c_M_keptBack 60 = .ok (.istore_n 2, 1) := by decide +kernel
theorem d_M_keptBack_61 : decode c_M_keptBack 61 = .ok (.iinc 3 1, 3) := by decide +kernel
theorem d_M_keptBack_64 : decode c_M_keptBack 64 = .ok (.goto (-60), 3) := by decide +kernel
theorem d_M_keptBack_67 : decode c_M_keptBack 67 = .ok (.iload_n 2, 1) := by decide +kernel
theorem d_M_keptBack_68 : decode c_M_keptBack 68 = .ok (.ifCond .eq 19, 3) := by decide +kernel
theorem d_M_keptBack_71 : decode c_M_keptBack 71 = .ok (.aload_n 0, 1) := by decide +kernel
theorem d_M_keptBack_72 : decode c_M_keptBack 72 = .ok (.getfield 56, 3) := by decide +kernel
theorem d_M_keptBack_75 : decode c_M_keptBack 75 = .ok (.iload_n 1, 1) := by decide +kernel
theorem d_M_keptBack_76 : decode c_M_keptBack 76 = .ok (.iaload, 1) := by decide +kernel
theorem d_M_keptBack_77 : decode c_M_keptBack 77 = .ok (.invokestatic 85, 3) := by decide +kernel
theorem d_M_keptBack_80 : decode c_M_keptBack 80 = .ok (.ifCond .eq 7, 3) := by decide +kernel
theorem d_M_keptBack_83 : decode c_M_keptBack 83 = .ok (.iconst 1, 1) := by decide +kernel
theorem d_M_keptBack_84 : decode c_M_keptBack 84 = .ok (.goto 4, 3) := by decide +kernel
theorem d_M_keptBack_87 : decode c_M_keptBack 87 = .ok (.iconst 0, 1) := by decide +kernel
theorem d_M_keptBack_88 : decode c_M_keptBack 88 = .ok (.ireturn, 1) := by decide +kernel
theorem d_M_digit_0 : decode c_M_digit 0 = .ok (.lload_n 0, 1) := by decide +kernel
theorem d_M_digit_1 : decode c_M_digit 1 = .ok (.iconst 4, 1) := by decide +kernel
theorem d_M_digit_2 : decode c_M_digit 2 = .ok (.iload_n 2, 1) := by decide +kernel
theorem d_M_digit_3 : decode c_M_digit 3 = .ok (.imul, 1) := by decide +kernel
theorem d_M_digit_4 : decode c_M_digit 4 = .ok (.lshr, 1) := by decide +kernel
theorem d_M_digit_5 : decode c_M_digit 5 = .ok (.ldc2_w 89, 3) := by decide +kernel
theorem d_M_digit_8 : decode c_M_digit 8 = .ok (.land, 1) := by decide +kernel
theorem d_M_digit_9 : decode c_M_digit 9 = .ok (.l2i, 1) := by decide +kernel
theorem d_M_digit_10 : decode c_M_digit 10 = .ok (.ireturn, 1) := by decide +kernel
theorem d_M_becomes_0 : decode c_M_becomes 0 = .ok (.iload_n 0, 1) := by decide +kernel
theorem d_M_becomes_1 : decode c_M_becomes 1 = .ok (.iconst 5, 1) := by decide +kernel
theorem d_M_becomes_2 : decode c_M_becomes 2 = .ok (.if_icmp .ne 11, 3) := by decide +kernel
theorem d_M_becomes_5 : decode c_M_becomes 5 = .ok (.ldc2_w 91, 3) := by decide +kernel
theorem d_M_becomes_8 : decode c_M_becomes 8 = .ok (.iload_n 1, 1) := by decide +kernel
theorem d_M_becomes_9 : decode c_M_becomes 9 = .ok (.invokestatic 93, 3) := by decide +kernel
theorem d_M_becomes_12 : decode c_M_becomes 12 = .ok (.ireturn, 1) := by decide +kernel
theorem d_M_becomes_13 : decode c_M_becomes 13 = .ok (.iload_n 0, 1) := by decide +kernel
theorem d_M_becomes_14 : decode c_M_becomes 14 = .ok (.bipush 6, 2) := by decide +kernel
theorem d_M_becomes_16 : decode c_M_becomes 16 = .ok (.if_icmp .ne 11, 3) := by decide +kernel
theorem d_M_becomes_19 : decode c_M_becomes 19 = .ok (.ldc2_w 97, 3) := by decide +kernel
theorem d_M_becomes_22 : decode c_M_becomes 22 = .ok (.iload_n 1, 1) := by decide +kernel
theorem d_M_becomes_23 : decode c_M_becomes 23 = .ok (.invokestatic 93, 3) := by decide +kernel
theorem d_M_becomes_26 : decode c_M_becomes 26 = .ok (.ireturn, 1) := by decide +kernel
theorem d_M_becomes_27 : decode c_M_becomes 27 = .ok (.ldc2_w 99, 3) := by decide +kernel
theorem d_M_becomes_30 : decode c_M_becomes 30 = .ok (.iload_n 1, 1) := by decide +kernel
theorem d_M_becomes_31 : decode c_M_becomes 31 = .ok (.invokestatic 93, 3) := by decide +kernel
theorem d_M_becomes_34 : decode c_M_becomes 34 = .ok (.ireturn, 1) := by decide +kernel
theorem d_M_stalls_0 : decode c_M_stalls 0 = .ok (.aload_n 0, 1) := by decide +kernel
theorem d_M_stalls_1 : decode c_M_stalls 1 = .ok (.getfield 65, 3) := by decide +kernel
theorem d_M_stalls_4 : decode c_M_stalls 4 = .ok (.iload_n 1, 1) := by decide +kernel
theorem d_M_stalls_5 : decode c_M_stalls 5 = .ok (.iaload, 1) := by decide +kernel
theorem d_M_stalls_6 : decode c_M_stalls 6 = .ok (.iconst 4, 1) := by decide +kernel
theorem d_M_stalls_7 : decode c_M_stalls 7 = .ok (.if_icmp .ne 34, 3) := by decide +kernel
theorem d_M_stalls_10 : decode c_M_stalls 10 = .ok (.aload_n 0, 1) := by decide +kernel
theorem d_M_stalls_11 : decode c_M_stalls 11 = .ok (.getfield 56, 3) := by decide +kernel
theorem d_M_stalls_14 : decode c_M_stalls 14 = .ok (.iload_n 1, 1) := by decide +kernel
theorem d_M_stalls_15 : decode c_M_stalls 15 = .ok (.iaload, 1) := by decide +kernel
theorem d_M_stalls_16 : decode c_M_stalls 16 = .ok (.iconst 2, 1) := by decide +kernel
theorem d_M_stalls_17 : decode c_M_stalls 17 = .ok (.if_icmp .ge 22, 3) := by decide +kernel
theorem d_M_stalls_20 : decode c_M_stalls 20 = .ok (.aload_n 0, 1) := by decide +kernel
theorem d_M_stalls_21 : decode c_M_stalls 21 = .ok (.getfield 44, 3) := by decide +kernel
theorem d_M_stalls_24 : decode c_M_stalls 24 = .ok (.aload_n 0, 1) := by decide +kernel
theorem d_M_stalls_25 : decode c_M_stalls 25 = .ok (.getfield 59, 3) := by decide +kernel
theorem d_M_stalls_28 : decode c_M_stalls 28 = .ok (.iload_n 1, 1) := by decide +kernel
theorem d_M_stalls_29 : decode c_M_stalls 29 = .ok (.iaload, 1) := by decide +kernel
theorem d_M_stalls_30 : decode c_M_stalls 30 = .ok (.iaload, 1) := by decide +kernel
theorem d_M_stalls_31 : decode c_M_stalls 31 = .ok (.iconst 3, 1) := by decide +kernel
theorem d_M_stalls_32 : decode c_M_stalls 32 = .ok (.if_icmp .ne 7, 3) := by decide +kernel
theorem d_M_stalls_35 : decode c_M_stalls 35 = .ok (.iconst 1, 1) := by decide +kernel
theorem d_M_stalls_36 : decode c_M_stalls 36 = .ok (.goto 4, 3) := by decide +kernel
theorem d_M_stalls_39 : decode c_M_stalls 39 = .ok (.iconst 0, 1) := by decide +kernel
theorem d_M_stalls_40 : decode c_M_stalls 40 = .ok (.ireturn, 1) := by decide +kernel
theorem d_M_stalls_41 : decode c_M_stalls 41 = .ok (.aload_n 0, 1) := by decide +kernel
theorem d_M_stalls_42 : decode c_M_stalls 42 = .ok (.getfield 56, 3) := by decide +kernel
theorem d_M_stalls_45 : decode c_M_stalls 45 = .ok (.iload_n 1, 1) := by decide +kernel
theorem d_M_stalls_46 : decode c_M_stalls 46 = .ok (.iaload, 1) := by decide +kernel
theorem d_M_stalls_47 : decode c_M_stalls 47 = .ok (.iconst 5, 1) := by decide +kernel
theorem d_M_stalls_48 : decode c_M_stalls 48 = .ok (.if_icmp .lt 52, 3) := by decide +kernel
theorem d_M_stalls_51 : decode c_M_stalls 51 = .ok (.aload_n 0, 1) := by decide +kernel
theorem d_M_stalls_52 : decode c_M_stalls 52 = .ok (.getfield 56, 3) := by decide +kernel
theorem d_M_stalls_55 : decode c_M_stalls 55 = .ok (.iload_n 1, 1) := by decide +kernel
theorem d_M_stalls_56 : decode c_M_stalls 56 = .ok (.iaload, 1) := by decide +kernel
theorem d_M_stalls_57 : decode c_M_stalls 57 = .ok (.bipush 7, 2) := by decide +kernel
theorem d_M_stalls_59 : decode c_M_stalls 59 = .ok (.if_icmp .gt 41, 3) := by decide +kernel
theorem d_M_stalls_62 : decode c_M_stalls 62 = .ok (.aload_n 0, 1) := by decide +kernel
theorem d_M_stalls_63 : decode c_M_stalls 63 = .ok (.getfield 56, 3) := by decide +kernel
theorem d_M_stalls_66 : decode c_M_stalls 66 = .ok (.iload_n 1, 1) := by decide +kernel
theorem d_M_stalls_67 : decode c_M_stalls 67 = .ok (.iaload, 1) := by decide +kernel
theorem d_M_stalls_68 : decode c_M_stalls 68 = .ok (.aload_n 0, 1) := by decide +kernel
theorem d_M_stalls_69 : decode c_M_stalls 69 = .ok (.getfield 7, 3) := by decide +kernel
theorem d_M_stalls_72 : decode c_M_stalls 72 = .ok (.iconst 4, 1) := by decide +kernel
theorem d_M_stalls_73 : decode c_M_stalls 73 = .ok (.aload_n 0, 1) := by decide +kernel
theorem d_M_stalls_74 : decode c_M_stalls 74 = .ok (.getfield 65, 3) := by decide +kernel
theorem d_M_stalls_77 : decode c_M_stalls 77 = .ok (.iload_n 1, 1) := by decide +kernel
theorem d_M_stalls_78 : decode c_M_stalls 78 = .ok (.iaload, 1) := by decide +kernel
theorem d_M_stalls_79 : decode c_M_stalls 79 = .ok (.imul, 1) := by decide +kernel
theorem d_M_stalls_80 : decode c_M_stalls 80 = .ok (.aload_n 0, 1) := by decide +kernel
theorem d_M_stalls_81 : decode c_M_stalls 81 = .ok (.getfield 59, 3) := by decide +kernel
theorem d_M_stalls_84 : decode c_M_stalls 84 = .ok (.iload_n 1, 1) := by decide +kernel
theorem d_M_stalls_85 : decode c_M_stalls 85 = .ok (.iaload, 1) := by decide +kernel
theorem d_M_stalls_86 : decode c_M_stalls 86 = .ok (.iadd, 1) := by decide +kernel
theorem d_M_stalls_87 : decode c_M_stalls 87 = .ok (.iaload, 1) := by decide +kernel
theorem d_M_stalls_88 : decode c_M_stalls 88 = .ok (.invokestatic 101, 3) := by decide +kernel
theorem d_M_stalls_91 : decode c_M_stalls 91 = .ok (.bipush 15, 2) := by decide +kernel
theorem d_M_stalls_93 : decode c_M_stalls 93 = .ok (.if_icmp .ne 7, 3) := by decide +kernel
theorem d_M_stalls_96 : decode c_M_stalls 96 = .ok (.iconst 1, 1) := by decide +kernel
theorem d_M_stalls_97 : decode c_M_stalls 97 = .ok (.goto 4, 3) := by decide +kernel
theorem d_M_stalls_100 : decode c_M_stalls 100 = .ok (.iconst 0, 1) := by decide +kernel
theorem d_M_stalls_101 : decode c_M_stalls 101 = .ok (.ireturn, 1) := by decide +kernel
theorem d_M_move_0 : decode c_M_move 0 = .ok (.aload_n 0, 1) := by decide +kernel
theorem d_M_move_1 : decode c_M_move 1 = .ok (.iload_n 1, 1) := by decide +kernel
theorem d_M_move_2 : decode c_M_move 2 = .ok (.invokevirtual 105, 3) := by decide +kernel
theorem d_M_move_5 : decode c_M_move 5 = .ok (.ifCond .eq 5, 3) := by decide +kernel
theorem d_M_move_8 : decode c_M_move 8 = .ok (.iconst 0, 1) := by decide +kernel
theorem d_M_move_9 : decode c_M_move 9 = .ok (.ireturn, 1) := by decide +kernel
theorem d_M_move_10 : decode c_M_move 10 = .ok (.aload_n 0, 1) := by decide +kernel
theorem d_M_move_11 : decode c_M_move 11 = .ok (.iload_n 1, 1) := by decide +kernel
theorem d_M_move_12 : decode c_M_move 12 = .ok (.invokevirtual 108, 3) := by decide +kernel
theorem d_M_move_15 : decode c_M_move 15 = .ok (.ifCond .eq 5, 3) := by decide +kernel
theorem d_M_move_18 : decode c_M_move 18 = .ok (.iconst 1, 1) := by decide +kernel
theorem d_M_move_19 : decode c_M_move 19 = .ok (.ireturn, 1) := by decide +kernel
theorem d_M_move_20 : decode c_M_move 20 = .ok (.aload_n 0, 1) := by decide +kernel
theorem d_M_move_21 : decode c_M_move 21 = .ok (.getfield 56, 3) := by decide +kernel
theorem d_M_move_24 : decode c_M_move 24 = .ok (.iload_n 1, 1) := by decide +kernel
theorem d_M_move_25 : decode c_M_move 25 = .ok (.iaload, 1) := by decide +kernel
theorem d_M_move_26 : decode c_M_move 26 = .ok (.istore_n 2, 1) := by decide +kernel
theorem d_M_move_27 : decode c_M_move 27 = .ok (.aload_n 0, 1) := by decide +kernel
theorem d_M_move_28 : decode c_M_move 28 = .ok (.getfield 59, 3) := by decide +kernel
theorem d_M_move_31 : decode c_M_move 31 = .ok (.iload_n 1, 1) := by decide +kernel
theorem d_M_move_32 : decode c_M_move 32 = .ok (.iaload, 1) := by decide +kernel
theorem d_M_move_33 : decode c_M_move 33 = .ok (.istore_n 3, 1) := by decide +kernel
theorem d_M_move_34 : decode c_M_move 34 = .ok (.aload_n 0, 1) := by decide +kernel
theorem d_M_move_35 : decode c_M_move 35 = .ok (.getfield 65, 3) := by decide +kernel
theorem d_M_move_38 : decode c_M_move 38 = .ok (.iload_n 1, 1) := by decide +kernel
theorem d_M_move_39 : decode c_M_move 39 = .ok (.iaload, 1) := by decide +kernel
theorem d_M_move_40 : decode c_M_move 40 = .ok (.istore 4, 2) := by decide +kernel
theorem d_M_move_42 : decode c_M_move 42 = .ok (.aload_n 0, 1) := by decide +kernel
theorem d_M_move_43 : decode c_M_move 43 = .ok (.getfield 68, 3) := by decide +kernel
theorem d_M_move_46 : decode c_M_move 46 = .ok (.iload_n 1, 1) := by decide +kernel
theorem d_M_move_47 : decode c_M_move 47 = .ok (.iaload, 1) := by decide +kernel
theorem d_M_move_48 : decode c_M_move 48 = .ok (.istore 5, 2) := by decide +kernel
theorem d_M_move_50 : decode c_M_move 50 = .ok (.aload_n 0, 1) := by decide +kernel
theorem d_M_move_51 : decode c_M_move 51 = .ok (.getfield 71, 3) := by decide +kernel
theorem d_M_move_54 : decode c_M_move 54 = .ok (.iload_n 1, 1) := by decide +kernel
theorem d_M_move_55 : decode c_M_move 55 = .ok (.iaload, 1) := by decide +kernel
theorem d_M_move_56 : decode c_M_move 56 = .ok (.istore 6, 2) := by decide +kernel
theorem d_M_move_58 : decode c_M_move 58 = .ok (.aload_n 0, 1) := by decide +kernel
theorem d_M_move_59 : decode c_M_move 59 = .ok (.getfield 74, 3) := by decide +kernel
theorem d_M_move_62 : decode c_M_move 62 = .ok (.iload_n 1, 1) := by decide +kernel
theorem d_M_move_63 : decode c_M_move 63 = .ok (.iaload, 1) := by decide +kernel
theorem d_M_move_64 : decode c_M_move 64 = .ok (.istore 7, 2) := by decide +kernel
theorem d_M_move_66 : decode c_M_move 66 = .ok (.aload_n 0, 1) := by decide +kernel
theorem d_M_move_67 : decode c_M_move 67 = .ok (.iload_n 1, 1) := by decide +kernel
theorem d_M_move_68 : decode c_M_move 68 = .ok (.invokevirtual 111, 3) := by decide +kernel
theorem d_M_move_71 : decode c_M_move 71 = .ok (.iload 4, 2) := by decide +kernel
theorem d_M_move_73 : decode c_M_move 73 = .ok (.iconst 4, 1) := by decide +kernel
theorem d_M_move_74 : decode c_M_move 74 = .ok (.if_icmp .ge 20, 3) := by decide +kernel
theorem d_M_move_77 : decode c_M_move 77 = .ok (.aload_n 0, 1) := by decide +kernel
theorem d_M_move_78 : decode c_M_move 78 = .ok (.iload_n 2, 1) := by decide +kernel
theorem d_M_move_79 : decode c_M_move 79 = .ok (.iload_n 3, 1) := by decide +kernel
theorem d_M_move_80 : decode c_M_move 80 = .ok (.iload 4, 2) := by decide +kernel
theorem d_M_move_82 : decode c_M_move 82 = .ok (.iload 5, 2) := by decide +kernel
theorem d_M_move_84 : decode c_M_move 84 = .ok (.iload 6, 2) := by decide +kernel
theorem d_M_move_86 : decode c_M_move 86 = .ok (.iload 7, 2) := by decide +kernel
theorem d_M_move_88 : decode c_M_move 88 = .ok (.invokevirtual 115, 3) := by decide +kernel
theorem d_M_move_91 : decode c_M_move 91 = .ok (.goto 78, 3) := by decide +kernel
theorem d_M_move_94 : decode c_M_move 94 = .ok (.iload_n 2, 1) := by decide +kernel
theorem d_M_move_95 : decode c_M_move 95 = .ok (.ifCond .ne 13, 3) := by decide +kernel
theorem d_M_move_98 : decode c_M_move 98 = .ok (.aload_n 0, 1) := by decide +kernel
theorem d_M_move_99 : decode c_M_move 99 = .ok (.iload_n 3, 1) := by decide +kernel
theorem d_M_move_100 : decode c_M_move 100 = .ok (.iload 5, 2) := by decide +kernel
theorem d_M_move_102 : decode c_M_move 102 = .ok (.invokevirtual 119, 3) := by decide +kernel
theorem d_M_move_105 : decode c_M_move 105 = .ok (.goto 64, 3) := by decide +kernel
theorem d_M_move_108 : decode c_M_move 108 = .ok (.iload_n 2, 1) := by decide +kernel
theorem d_M_move_109 : decode c_M_move 109 = .ok (.iconst 1, 1) := by decide +kernel
theorem d_M_move_110 : decode c_M_move 110 = .ok (.if_icmp .ne 13, 3) := by decide +kernel
theorem d_M_move_113 : decode c_M_move 113 = .ok (.aload_n 0, 1) := by decide +kernel
theorem d_M_move_114 : decode c_M_move 114 = .ok (.iload_n 3, 1) := by decide +kernel
theorem d_M_move_115 : decode c_M_move 115 = .ok (.iload 5, 2) := by decide +kernel
theorem d_M_move_117 : decode c_M_move 117 = .ok (.invokevirtual 123, 3) := by decide +kernel
theorem d_M_move_120 : decode c_M_move 120 = .ok (.goto 49, 3) := by decide +kernel
theorem d_M_move_123 : decode c_M_move 123 = .ok (.iload_n 2, 1) := by decide +kernel
theorem d_M_move_124 : decode c_M_move 124 = .ok (.iconst 5, 1) := by decide +kernel
theorem d_M_move_125 : decode c_M_move 125 = .ok (.if_icmp .ge 16, 3) := by decide +kernel
theorem d_M_move_128 : decode c_M_move 128 = .ok (.aload_n 0, 1) := by decide +kernel
theorem d_M_move_129 : decode c_M_move 129 = .ok (.iload_n 2, 1) := by decide +kernel
theorem d_M_move_130 : decode c_M_move 130 = .ok (.iload_n 3, 1) := by decide +kernel
theorem d_M_move_131 : decode c_M_move 131 = .ok (.iload 5, 2) := by decide +kernel
theorem d_M_move_133 : decode c_M_move 133 = .ok (.iload 7, 2) := by decide +kernel
theorem d_M_move_135 : decode c_M_move 135 = .ok (.invokevirtual 126, 3) := by decide +kernel
theorem d_M_move_138 : decode c_M_move 138 = .ok (.goto 31, 3) := by decide +kernel
theorem d_M_move_141 : decode c_M_move 141 = .ok (.aload_n 0, 1) := by decide +kernel
theorem d_M_move_142 : decode c_M_move 142 = .ok (.getfield 53, 3) := by decide +kernel
theorem d_M_move_145 : decode c_M_move 145 = .ok (.iload_n 3, 1) := by decide +kernel
theorem d_M_move_146 : decode c_M_move 146 = .ok (.iload 7, 2) := by decide +kernel
theorem d_M_move_148 : decode c_M_move 148 = .ok (.iastore, 1) := by decide +kernel
theorem d_M_move_149 : decode c_M_move 149 = .ok (.aload_n 0, 1) := by decide +kernel
theorem d_M_move_150 : decode c_M_move 150 = .ok (.getfield 44, 3) := by decide +kernel
theorem d_M_move_153 : decode c_M_move 153 = .ok (.iload_n 3, 1) := by decide +kernel
theorem d_M_move_154 : decode c_M_move 154 = .ok (.aload_n 0, 1) := by decide +kernel
theorem d_M_move_155 : decode c_M_move 155 = .ok (.getfield 50, 3) := by decide +kernel
theorem d_M_move_158 : decode c_M_move 158 = .ok (.iload_n 3, 1) := by decide +kernel
theorem d_M_move_159 : decode c_M_move 159 = .ok (.iaload, 1) := by decide +kernel
theorem d_M_move_160 : decode c_M_move 160 = .ok (.ifCond .ne 7, 3) := by decide +kernel
theorem d_M_move_163 : decode c_M_move 163 = .ok (.iconst 0, 1) := by decide +kernel
theorem d_M_move_164 : decode c_M_move 164 = .ok (.goto 4, 3) := by decide +kernel
theorem d_M_move_167 : decode c_M_move 167 = .ok (.iconst 1, 1) := by decide +kernel
theorem d_M_move_168 : decode c_M_move 168 = .ok (.iastore, 1) := by decide +kernel
theorem d_M_move_169 : decode c_M_move 169 = .ok (.iconst 2, 1) := by decide +kernel
theorem d_M_move_170 : decode c_M_move 170 = .ok (.ireturn, 1) := by decide +kernel
theorem d_M_toRead_0 : decode c_M_toRead 0 = .ok (.aload_n 0, 1) := by decide +kernel
theorem d_M_toRead_1 : decode c_M_toRead 1 = .ok (.getfield 44, 3) := by decide +kernel
theorem d_M_toRead_4 : decode c_M_toRead 4 = .ok (.iload_n 1, 1) := by decide +kernel
theorem d_M_toRead_5 : decode c_M_toRead 5 = .ok (.iaload, 1) := by decide +kernel
theorem d_M_toRead_6 : decode c_M_toRead 6 = .ok (.ifCond .ne 37, 3) := by decide +kernel
theorem d_M_toRead_9 : decode c_M_toRead 9 = .ok (.aload_n 0, 1) := by decide +kernel
theorem d_M_toRead_10 : decode c_M_toRead 10 = .ok (.bipush 10, 2) := by decide +kernel
theorem d_M_toRead_12 : decode c_M_toRead 12 = .ok (.iload_n 1, 1) := by decide +kernel
theorem d_M_toRead_13 : decode c_M_toRead 13 = .ok (.iconst 4, 1) := by decide +kernel
theorem d_M_toRead_14 : decode c_M_toRead 14 = .ok (.iload_n 2, 1) := by decide +kernel
theorem d_M_toRead_15 : decode c_M_toRead 15 = .ok (.iload_n 2, 1) := by decide +kernel
theorem d_M_toRead_16 : decode c_M_toRead 16 = .ok (.iconst 0, 1) := by decide +kernel
theorem d_M_toRead_17 : decode c_M_toRead 17 = .ok (.aload_n 0, 1) := by decide +kernel
theorem d_M_toRead_18 : decode c_M_toRead 18 = .ok (.getfield 53, 3) := by decide +kernel
theorem d_M_toRead_21 : decode c_M_toRead 21 = .ok (.iload_n 1, 1) := by decide +kernel
theorem d_M_toRead_22 : decode c_M_toRead 22 = .ok (.iaload, 1) := by decide +kernel
theorem d_M_toRead_23 : decode c_M_toRead 23 = .ok (.invokevirtual 77, 3) := by decide +kernel
theorem d_M_toRead_26 : decode c_M_toRead 26 = .ok (.aload_n 0, 1) := by decide +kernel
theorem d_M_toRead_27 : decode c_M_toRead 27 = .ok (.getfield 47, 3) := by decide +kernel
theorem d_M_toRead_30 : decode c_M_toRead 30 = .ok (.iload_n 1, 1) := by decide +kernel
theorem d_M_toRead_31 : decode c_M_toRead 31 = .ok (.iload_n 2, 1) := by decide +kernel
theorem d_M_toRead_32 : decode c_M_toRead 32 = .ok (.iastore, 1) := by decide +kernel
theorem d_M_toRead_33 : decode c_M_toRead 33 = .ok (.aload_n 0, 1) := by decide +kernel
theorem d_M_toRead_34 : decode c_M_toRead 34 = .ok (.getfield 44, 3) := by decide +kernel
theorem d_M_toRead_37 : decode c_M_toRead 37 = .ok (.iload_n 1, 1) := by decide +kernel
theorem d_M_toRead_38 : decode c_M_toRead 38 = .ok (.iconst 2, 1) := by decide +kernel
theorem d_M_toRead_39 : decode c_M_toRead 39 = .ok (.iastore, 1) := by decide +kernel
theorem d_M_toRead_40 : decode c_M_toRead 40 = .ok (.goto 89, 3) := by decide +kernel
theorem d_M_toRead_43 : decode c_M_toRead 43 = .ok (.aload_n 0, 1) := by decide +kernel
theorem d_M_toRead_44 : decode c_M_toRead 44 = .ok (.getfield 44, 3) := by decide +kernel
theorem d_M_toRead_47 : decode c_M_toRead 47 = .ok (.iload_n 1, 1) := by decide +kernel
theorem d_M_toRead_48 : decode c_M_toRead 48 = .ok (.iaload, 1) := by decide +kernel
theorem d_M_toRead_49 : decode c_M_toRead 49 = .ok (.iconst 1, 1) := by decide +kernel
theorem d_M_toRead_50 : decode c_M_toRead 50 = .ok (.if_icmp .ne 39, 3) := by decide +kernel
theorem d_M_toRead_53 : decode c_M_toRead 53 = .ok (.aload_n 0, 1) := by decide +kernel
theorem d_M_toRead_54 : decode c_M_toRead 54 = .ok (.bipush 9, 2) := by decide +kernel
theorem d_M_toRead_56 : decode c_M_toRead 56 = .ok (.iload_n 1, 1) := by decide +kernel
theorem d_M_toRead_57 : decode c_M_toRead 57 = .ok (.iconst 4, 1) := by decide +kernel
theorem d_M_toRead_58 : decode c_M_toRead 58 = .ok (.iload_n 2, 1) := by decide +kernel
theorem d_M_toRead_59 : decode c_M_toRead 59 = .ok (.iload_n 2, 1) := by decide +kernel
theorem d_M_toRead_60 : decode c_M_toRead 60 = .ok (.iconst 0, 1) := by decide +kernel
theorem d_M_toRead_61 : decode c_M_toRead 61 = .ok (.aload_n 0, 1) := by decide +kernel
theorem d_M_toRead_62 : decode c_M_toRead 62 = .ok (.getfield 53, 3) := by decide +kernel
theorem d_M_toRead_65 : decode c_M_toRead 65 = .ok (.iload_n 1, 1) := by decide +kernel
theorem d_M_toRead_66 : decode c_M_toRead 66 = .ok (.iaload, 1) := by decide +kernel
theorem d_M_toRead_67 : decode c_M_toRead 67 = .ok (.invokevirtual 77, 3) := by decide +kernel
theorem d_M_toRead_70 : decode c_M_toRead 70 = .ok (.aload_n 0, 1) := by decide +kernel
theorem d_M_toRead_71 : decode c_M_toRead 71 = .ok (.getfield 50, 3) := by decide +kernel
theorem d_M_toRead_74 : decode c_M_toRead 74 = .ok (.iload_n 1, 1) := by decide +kernel
theorem d_M_toRead_75 : decode c_M_toRead 75 = .ok (.aload_n 0, 1) := by decide +kernel
theorem d_M_toRead_76 : decode c_M_toRead 76 = .ok (.getfield 50, 3) := by decide +kernel
theorem d_M_toRead_79 : decode c_M_toRead 79 = .ok (.iload_n 1, 1) := by decide +kernel
theorem d_M_toRead_80 : decode c_M_toRead 80 = .ok (.iaload, 1) := by decide +kernel
theorem d_M_toRead_81 : decode c_M_toRead 81 = .ok (.iconst 1, 1) := by decide +kernel
theorem d_M_toRead_82 : decode c_M_toRead 82 = .ok (.iload_n 2, 1) := by decide +kernel
theorem d_M_toRead_83 : decode c_M_toRead 83 = .ok (.ishl, 1) := by decide +kernel
theorem d_M_toRead_84 : decode c_M_toRead 84 = .ok (.ior, 1) := by decide +kernel
theorem d_M_toRead_85 : decode c_M_toRead 85 = .ok (.iastore, 1) := by decide +kernel
theorem d_M_toRead_86 : decode c_M_toRead 86 = .ok (.goto 43, 3) := by decide +kernel
theorem d_M_toRead_89 : decode c_M_toRead 89 = .ok (.aload_n 0, 1) := by decide +kernel
theorem d_M_toRead_90 : decode c_M_toRead 90 = .ok (.iconst 5, 1) := by decide +kernel
theorem d_M_toRead_91 : decode c_M_toRead 91 = .ok (.iload_n 1, 1) := by decide +kernel
theorem d_M_toRead_92 : decode c_M_toRead 92 = .ok (.iconst 4, 1) := by decide +kernel
theorem d_M_toRead_93 : decode c_M_toRead 93 = .ok (.aload_n 0, 1) := by decide +kernel
theorem d_M_toRead_94 : decode c_M_toRead 94 = .ok (.getfield 47, 3) := by decide +kernel
theorem d_M_toRead_97 : decode c_M_toRead 97 = .ok (.iload_n 1, 1) := by decide +kernel
theorem d_M_toRead_98 : decode c_M_toRead 98 = .ok (.iaload, 1) := by decide +kernel
theorem d_M_toRead_99 : decode c_M_toRead 99 = .ok (.iload_n 2, 1) := by decide +kernel
theorem d_M_toRead_100 : decode c_M_toRead 100 = .ok (.iconst 0, 1) := by decide +kernel
theorem d_M_toRead_101 : decode c_M_toRead 101 = .ok (.invokevirtual 130, 3) := by decide +kernel
theorem d_M_toRead_104 : decode c_M_toRead 104 = .ok (.aload_n 0, 1) := by decide +kernel
theorem d_M_toRead_105 : decode c_M_toRead 105 = .ok (.getfield 50, 3) := by decide +kernel
theorem d_M_toRead_108 : decode c_M_toRead 108 = .ok (.iload_n 1, 1) := by decide +kernel
theorem d_M_toRead_109 : decode c_M_toRead 109 = .ok (.iconst 1, 1) := by decide +kernel
theorem d_M_toRead_110 : decode c_M_toRead 110 = .ok (.aload_n 0, 1) := by decide +kernel
theorem d_M_toRead_111 : decode c_M_toRead 111 = .ok (.getfield 47, 3) := by decide +kernel
theorem d_M_toRead_114 : decode c_M_toRead 114 = .ok (.iload_n 1, 1) := by decide +kernel
theorem d_M_toRead_115 : decode c_M_toRead 115 = .ok (.iaload, 1) := by decide +kernel
theorem d_M_toRead_116 : decode c_M_toRead 116 = .ok (.ishl, 1) := by decide +kernel
theorem d_M_toRead_117 : decode c_M_toRead 117 = .ok (.iconst 1, 1) := by decide +kernel
theorem d_M_toRead_118 : decode c_M_toRead 118 = .ok (.iload_n 2, 1) := by decide +kernel
theorem d_M_toRead_119 : decode c_M_toRead 119 = .ok (.ishl, 1) := by decide +kernel
theorem d_M_toRead_120 : decode c_M_toRead 120 = .ok (.ior, 1) := by decide +kernel
theorem d_M_toRead_121 : decode c_M_toRead 121 = .ok (.iastore, 1) := by decide +kernel
theorem d_M_toRead_122 : decode c_M_toRead 122 = .ok (.aload_n 0, 1) := by decide +kernel
theorem d_M_toRead_123 : decode c_M_toRead 123 = .ok (.getfield 44, 3) := by decide +kernel
theorem d_M_toRead_126 : decode c_M_toRead 126 = .ok (.iload_n 1, 1) := by decide +kernel
theorem d_M_toRead_127 : decode c_M_toRead 127 = .ok (.iconst 3, 1) := by decide +kernel
theorem d_M_toRead_128 : decode c_M_toRead 128 = .ok (.iastore, 1) := by decide +kernel
theorem d_M_toRead_129 : decode c_M_toRead 129 = .ok (.return_, 1) := by decide +kernel
theorem d_M_toWrite_0 : decode c_M_toWrite 0 = .ok (.aload_n 0, 1) := by decide +kernel
theorem d_M_toWrite_1 : decode c_M_toWrite 1 = .ok (.getfield 44, 3) := by decide +kernel
theorem d_M_toWrite_4 : decode c_M_toWrite 4 = .ok (.iload_n 1, 1) := by decide +kernel
theorem d_M_toWrite_5 : decode c_M_toWrite 5 = .ok (.iaload, 1) := by decide +kernel
theorem d_M_toWrite_6 : decode c_M_toWrite 6 = .ok (.iconst 2, 1) := by decide +kernel
theorem d_M_toWrite_7 : decode c_M_toWrite 7 = .ok (.if_icmp .ne 22, 3) := by decide +kernel
theorem d_M_toWrite_10 : decode c_M_toWrite 10 = .ok (.aload_n 0, 1) := by decide +kernel
theorem d_M_toWrite_11 : decode c_M_toWrite 11 = .ok (.bipush 6, 2) := by decide +kernel
theorem d_M_toWrite_13 : decode c_M_toWrite 13 = .ok (.iload_n 1, 1) := by decide +kernel
theorem d_M_toWrite_14 : decode c_M_toWrite 14 = .ok (.iconst 4, 1) := by decide +kernel
theorem d_M_toWrite_15 : decode c_M_toWrite 15 = .ok (.aload_n 0, 1) := by decide +kernel
theorem d_M_toWrite_16 : decode c_M_toWrite 16 = .ok (.getfield 47, 3) := by decide +kernel
theorem d_M_toWrite_19 : decode c_M_toWrite 19 = .ok (.iload_n 1, 1) := by decide +kernel
theorem d_M_toWrite_20 : decode c_M_toWrite 20 = .ok (.iaload, 1) := by decide +kernel
theorem d_M_toWrite_21 : decode c_M_toWrite 21 = .ok (.iload_n 2, 1) := by decide +kernel
theorem d_M_toWrite_22 : decode c_M_toWrite 22 = .ok (.iconst 0, 1) := by decide +kernel
theorem d_M_toWrite_23 : decode c_M_toWrite 23 = .ok (.invokevirtual 130, 3) := by decide +kernel
theorem d_M_toWrite_26 : decode c_M_toWrite 26 = .ok (.goto 116, 3) := by decide +kernel
theorem d_M_toWrite_29 : decode c_M_toWrite 29 = .ok (.iconst 0, 1) := by decide +kernel
theorem d_M_toWrite_30 : decode c_M_toWrite 30 = .ok (.istore_n 3, 1) := by decide +kernel
theorem d_M_toWrite_31 : decode c_M_toWrite 31 = .ok (.iconst 0, 1) := by decide +kernel
theorem d_M_toWrite_32 : decode c_M_toWrite 32 = .ok (.istore 4, 2) := by decide +kernel
theorem d_M_toWrite_34 : decode c_M_toWrite 34 = .ok (.iload 4, 2) := by decide +kernel
theorem d_M_toWrite_36 : decode c_M_toWrite 36 = .ok (.iconst 4, 1) := by decide +kernel
theorem d_M_toWrite_37 : decode c_M_toWrite 37 = .ok (.if_icmp .ge 33, 3) := by decide +kernel
theorem d_M_toWrite_40 : decode c_M_toWrite 40 = .ok (.iload 4, 2) := by decide +kernel
theorem d_M_toWrite_42 : decode c_M_toWrite 42 = .ok (.iload_n 2, 1) := by decide +kernel
theorem d_M_toWrite_43 : decode c_M_toWrite 43 = .ok (.if_icmp .eq 21, 3) := by decide +kernel
theorem d_M_toWrite_46 : decode c_M_toWrite 46 = .ok (.aload_n 0, 1) := by decide +kernel
theorem d_M_toWrite_47 : decode c_M_toWrite 47 = .ok (.getfield 50, 3) := by decide +kernel
theorem d_M_toWrite_50 : decode c_M_toWrite 50 = .ok (.iload_n 1, 1) := by decide +kernel
theorem d_M_toWrite_51 : decode c_M_toWrite 51 = .ok (.iaload, 1) := by decide +kernel
theorem d_M_toWrite_52 : decode c_M_toWrite 52 = .ok (.iload 4, 2) := by decide +kernel
theorem d_M_toWrite_54 : decode c_M_toWrite 54 = .ok (.ishr, 1) := by decide +kernel
theorem d_M_toWrite_55 : decode c_M_toWrite 55 = .ok (.iconst 1, 1) := by decide +kernel
theorem d_M_toWrite_56 : decode c_M_toWrite 56 = .ok (.iand, 1) := by decide +kernel
theorem d_M_toWrite_57 : decode c_M_toWrite 57 = .ok (.iconst 1, 1) := by decide +kernel
theorem d_M_toWrite_58 : decode c_M_toWrite 58 = .ok (.if_icmp .ne 6, 3) := by decide +kernel
theorem d_M_toWrite_61 : decode c_M_toWrite 61 = .ok (.iinc 3 1, 3) := by decide +kernel
theorem d_M_toWrite_64 : decode c_M_toWrite 64 = .ok (.iinc 4 1, 3) := by decide +kernel
theorem d_M_toWrite_67 : decode c_M_toWrite 67 = .ok (.goto (-33), 3) := by decide +kernel
theorem d_M_toWrite_70 : decode c_M_toWrite 70 = .ok (.aload_n 0, 1) := by decide +kernel
theorem d_M_toWrite_71 : decode c_M_toWrite 71 = .ok (.bipush 9, 2) := by decide +kernel
theorem d_M_toWrite_73 : decode c_M_toWrite 73 = .ok (.iload_n 1, 1) := by decide +kernel
theorem d_M_toWrite_74 : decode c_M_toWrite 74 = .ok (.iconst 4, 1) := by decide +kernel
theorem d_M_toWrite_75 : decode c_M_toWrite 75 = .ok (.iload_n 2, 1) := by decide +kernel
theorem d_M_toWrite_76 : decode c_M_toWrite 76 = .ok (.iload_n 2, 1) := by decide +kernel
theorem d_M_toWrite_77 : decode c_M_toWrite 77 = .ok (.iload_n 3, 1) := by decide +kernel
theorem d_M_toWrite_78 : decode c_M_toWrite 78 = .ok (.aload_n 0, 1) := by decide +kernel
theorem d_M_toWrite_79 : decode c_M_toWrite 79 = .ok (.getfield 53, 3) := by decide +kernel
theorem d_M_toWrite_82 : decode c_M_toWrite 82 = .ok (.iload_n 1, 1) := by decide +kernel
theorem d_M_toWrite_83 : decode c_M_toWrite 83 = .ok (.iaload, 1) := by decide +kernel
theorem d_M_toWrite_84 : decode c_M_toWrite 84 = .ok (.invokevirtual 77, 3) := by decide +kernel
theorem d_M_toWrite_87 : decode c_M_toWrite 87 = .ok (.iconst 0, 1) := by decide +kernel
theorem d_M_toWrite_88 : decode c_M_toWrite 88 = .ok (.istore 4, 2) := by decide +kernel
theorem d_M_toWrite_90 : decode c_M_toWrite 90 = .ok (.iload 4, 2) := by decide +kernel
theorem d_M_toWrite_92 : decode c_M_toWrite 92 = .ok (.iconst 4, 1) := by decide +kernel
theorem d_M_toWrite_93 : decode c_M_toWrite 93 = .ok (.if_icmp .ge 42, 3) := by decide +kernel
theorem d_M_toWrite_96 : decode c_M_toWrite 96 = .ok (.iload 4, 2) := by decide +kernel
theorem d_M_toWrite_98 : decode c_M_toWrite 98 = .ok (.iload_n 2, 1) := by decide +kernel
theorem d_M_toWrite_99 : decode c_M_toWrite 99 = .ok (.if_icmp .eq 30, 3) := by decide +kernel
theorem d_M_toWrite_102 : decode c_M_toWrite 102 = .ok (.aload_n 0, 1) := by decide +kernel
theorem d_M_toWrite_103 : decode c_M_toWrite 103 = .ok (.getfield 50, 3) := by decide +kernel
theorem d_M_toWrite_106 : decode c_M_toWrite 106 = .ok (.iload_n 1, 1) := by decide +kernel
theorem d_M_toWrite_107 : decode c_M_toWrite 107 = .ok (.iaload, 1) := by decide +kernel
theorem d_M_toWrite_108 : decode c_M_toWrite 108 = .ok (.iload 4, 2) := by decide +kernel
theorem d_M_toWrite_110 : decode c_M_toWrite 110 = .ok (.ishr, 1) := by decide +kernel
theorem d_M_toWrite_111 : decode c_M_toWrite 111 = .ok (.iconst 1, 1) := by decide +kernel
theorem d_M_toWrite_112 : decode c_M_toWrite 112 = .ok (.iand, 1) := by decide +kernel
theorem d_M_toWrite_113 : decode c_M_toWrite 113 = .ok (.iconst 1, 1) := by decide +kernel
theorem d_M_toWrite_114 : decode c_M_toWrite 114 = .ok (.if_icmp .ne 15, 3) := by decide +kernel
theorem d_M_toWrite_117 : decode c_M_toWrite 117 = .ok (.aload_n 0, 1) := by decide +kernel
theorem d_M_toWrite_118 : decode c_M_toWrite 118 = .ok (.bipush 7, 2) := by decide +kernel
theorem d_M_toWrite_120 : decode c_M_toWrite 120 = .ok (.iload_n 1, 1) := by decide +kernel
theorem d_M_toWrite_121 : decode c_M_toWrite 121 = .ok (.iconst 4, 1) := by decide +kernel
theorem d_M_toWrite_122 : decode c_M_toWrite 122 = .ok (.iload 4, 2) := by decide +kernel
theorem d_M_toWrite_124 : decode c_M_toWrite 124 = .ok (.iload_n 2, 1) := by decide +kernel
theorem d_M_toWrite_125 : decode c_M_toWrite 125 = .ok (.iconst 0, 1) := by decide +kernel
theorem d_M_toWrite_126 : decode c_M_toWrite 126 = .ok (.invokevirtual 130, 3) := by decide +kernel
theorem d_M_toWrite_129 : decode c_M_toWrite 129 = .ok (.iinc 4 1, 3) := by decide +kernel
theorem d_M_toWrite_132 : decode c_M_toWrite 132 = .ok (.goto (-42), 3) := by decide +kernel
theorem d_M_toWrite_135 : decode c_M_toWrite 135 = .ok (.aload_n 0, 1) := by decide +kernel
theorem d_M_toWrite_136 : decode c_M_toWrite 136 = .ok (.getfield 50, 3) := by decide +kernel
theorem d_M_toWrite_139 : decode c_M_toWrite 139 = .ok (.iload_n 1, 1) := by decide +kernel
theorem d_M_toWrite_140 : decode c_M_toWrite 140 = .ok (.iconst 0, 1) := by decide +kernel
theorem d_M_toWrite_141 : decode c_M_toWrite 141 = .ok (.iastore, 1) := by decide +kernel
theorem d_M_toWrite_142 : decode c_M_toWrite 142 = .ok (.aload_n 0, 1) := by decide +kernel
theorem d_M_toWrite_143 : decode c_M_toWrite 143 = .ok (.getfield 47, 3) := by decide +kernel
theorem d_M_toWrite_146 : decode c_M_toWrite 146 = .ok (.iload_n 1, 1) := by decide +kernel
theorem d_M_toWrite_147 : decode c_M_toWrite 147 = .ok (.iload_n 2, 1) := by decide +kernel
theorem d_M_toWrite_148 : decode c_M_toWrite 148 = .ok (.iastore, 1) := by decide +kernel
theorem d_M_toWrite_149 : decode c_M_toWrite 149 = .ok (.aload_n 0, 1) := by decide +kernel
theorem d_M_toWrite_150 : decode c_M_toWrite 150 = .ok (.getfield 44, 3) := by decide +kernel
theorem d_M_toWrite_153 : decode c_M_toWrite 153 = .ok (.iload_n 1, 1) := by decide +kernel
theorem d_M_toWrite_154 : decode c_M_toWrite 154 = .ok (.iconst 2, 1) := by decide +kernel
theorem d_M_toWrite_155 : decode c_M_toWrite 155 = .ok (.iastore, 1) := by decide +kernel
theorem d_M_toWrite_156 : decode c_M_toWrite 156 = .ok (.return_, 1) := by decide +kernel
theorem d_M_toLeave_0 : decode c_M_toLeave 0 = .ok (.aload_n 0, 1) := by decide +kernel
theorem d_M_toLeave_1 : decode c_M_toLeave 1 = .ok (.getfield 44, 3) := by decide +kernel
theorem d_M_toLeave_4 : decode c_M_toLeave 4 = .ok (.iload_n 2, 1) := by decide +kernel
theorem d_M_toLeave_5 : decode c_M_toLeave 5 = .ok (.iaload, 1) := by decide +kernel
theorem d_M_toLeave_6 : decode c_M_toLeave 6 = .ok (.iconst 2, 1) := by decide +kernel
theorem d_M_toLeave_7 : decode c_M_toLeave 7 = .ok (.if_icmp .ne 36, 3) := by decide +kernel
theorem d_M_toLeave_10 : decode c_M_toLeave 10 = .ok (.aload_n 0, 1) := by decide +kernel
theorem d_M_toLeave_11 : decode c_M_toLeave 11 = .ok (.getfield 47, 3) := by decide +kernel
theorem d_M_toLeave_14 : decode c_M_toLeave 14 = .ok (.iload_n 2, 1) := by decide +kernel
theorem d_M_toLeave_15 : decode c_M_toLeave 15 = .ok (.iaload, 1) := by decide +kernel
theorem d_M_toLeave_16 : decode c_M_toLeave 16 = .ok (.iload_n 3, 1) := by decide +kernel
theorem d_M_toLeave_17 : decode c_M_toLeave 17 = .ok (.if_icmp .ne 26, 3) := by decide +kernel
theorem d_M_toLeave_20 : decode c_M_toLeave 20 = .ok (.iload_n 1, 1) := by decide +kernel
theorem d_M_toLeave_21 : decode c_M_toLeave 21 = .ok (.iconst 4, 1) := by decide +kernel
theorem d_M_toLeave_22 : decode c_M_toLeave 22 = .ok (.if_icmp .ne 11, 3) := by decide +kernel
theorem d_M_toLeave_25 : decode c_M_toLeave 25 = .ok (.aload_n 0, 1) := by decide +kernel
theorem d_M_toLeave_26 : decode c_M_toLeave 26 = .ok (.getfield 53, 3) := by decide +kernel
theorem d_M_toLeave_29 : decode c_M_toLeave 29 = .ok (.iload_n 2, 1) := by decide +kernel
theorem d_M_toLeave_30 : decode c_M_toLeave 30 = .ok (.iload 4, 2) := by decide +kernel
theorem d_M_toLeave_32 : decode c_M_toLeave 32 = .ok (.iastore, 1) := by decide +kernel
theorem d_M_toLeave_33 : decode c_M_toLeave 33 = .ok (.aload_n 0, 1) := by decide +kernel
theorem d_M_toLeave_34 : decode c_M_toLeave 34 = .ok (.getfield 44, 3) := by decide +kernel
theorem d_M_toLeave_37 : decode c_M_toLeave 37 = .ok (.iload_n 2, 1) := by decide +kernel
theorem d_M_toLeave_38 : decode c_M_toLeave 38 = .ok (.iconst 0, 1) := by decide +kernel
theorem d_M_toLeave_39 : decode c_M_toLeave 39 = .ok (.iastore, 1) := by decide +kernel
theorem d_M_toLeave_40 : decode c_M_toLeave 40 = .ok (.goto 47, 3) := by decide +kernel
theorem d_M_toLeave_43 : decode c_M_toLeave 43 = .ok (.aload_n 0, 1) := by decide +kernel
theorem d_M_toLeave_44 : decode c_M_toLeave 44 = .ok (.getfield 50, 3) := by decide +kernel
theorem d_M_toLeave_47 : decode c_M_toLeave 47 = .ok (.iload_n 2, 1) := by decide +kernel
theorem d_M_toLeave_48 : decode c_M_toLeave 48 = .ok (.aload_n 0, 1) := by decide +kernel
theorem d_M_toLeave_49 : decode c_M_toLeave 49 = .ok (.getfield 50, 3) := by decide +kernel
theorem d_M_toLeave_52 : decode c_M_toLeave 52 = .ok (.iload_n 2, 1) := by decide +kernel
theorem d_M_toLeave_53 : decode c_M_toLeave 53 = .ok (.iaload, 1) := by decide +kernel
theorem d_M_toLeave_54 : decode c_M_toLeave 54 = .ok (.iconst 1, 1) := by decide +kernel
theorem d_M_toLeave_55 : decode c_M_toLeave 55 = .ok (.iload_n 3, 1) := by decide +kernel
theorem d_M_toLeave_56 : decode c_M_toLeave 56 = .ok (.ishl, 1) := by decide +kernel
theorem d_M_toLeave_57 : decode c_M_toLeave 57 = .ok (.iconst (-1), 1) := by decide +kernel
theorem d_M_toLeave_58 : decode c_M_toLeave 58 = .ok (.ixor, 1) := by decide +kernel
theorem d_M_toLeave_59 : decode c_M_toLeave 59 = .ok (.iand, 1) := by decide +kernel
theorem d_M_toLeave_60 : decode c_M_toLeave 60 = .ok (.iastore, 1) := by decide +kernel
theorem d_M_toLeave_61 : decode c_M_toLeave 61 = .ok (.aload_n 0, 1) := by decide +kernel
theorem d_M_toLeave_62 : decode c_M_toLeave 62 = .ok (.getfield 44, 3) := by decide +kernel
theorem d_M_toLeave_65 : decode c_M_toLeave 65 = .ok (.iload_n 2, 1) := by decide +kernel
theorem d_M_toLeave_66 : decode c_M_toLeave 66 = .ok (.iaload, 1) := by decide +kernel
theorem d_M_toLeave_67 : decode c_M_toLeave 67 = .ok (.iconst 1, 1) := by decide +kernel
theorem d_M_toLeave_68 : decode c_M_toLeave 68 = .ok (.if_icmp .ne 19, 3) := by decide +kernel
theorem d_M_toLeave_71 : decode c_M_toLeave 71 = .ok (.aload_n 0, 1) := by decide +kernel
theorem d_M_toLeave_72 : decode c_M_toLeave 72 = .ok (.getfield 50, 3) := by decide +kernel
theorem d_M_toLeave_75 : decode c_M_toLeave 75 = .ok (.iload_n 2, 1) := by decide +kernel
theorem d_M_toLeave_76 : decode c_M_toLeave 76 = .ok (.iaload, 1) := by decide +kernel
theorem d_M_toLeave_77 : decode c_M_toLeave 77 = .ok (.ifCond .ne 10, 3) := by decide +kernel
theorem d_M_toLeave_80 : decode c_M_toLeave 80 = .ok (.aload_n 0, 1) := by decide +kernel
theorem d_M_toLeave_81 : decode c_M_toLeave 81 = .ok (.getfield 44, 3) := by decide +kernel
theorem d_M_toLeave_84 : decode c_M_toLeave 84 = .ok (.iload_n 2, 1) := by decide +kernel
theorem d_M_toLeave_85 : decode c_M_toLeave 85 = .ok (.iconst 0, 1) := by decide +kernel
theorem d_M_toLeave_86 : decode c_M_toLeave 86 = .ok (.iastore, 1) := by decide +kernel
theorem d_M_toLeave_87 : decode c_M_toLeave 87 = .ok (.aload_n 0, 1) := by decide +kernel
theorem d_M_toLeave_88 : decode c_M_toLeave 88 = .ok (.bipush 8, 2) := by decide +kernel
theorem d_M_toLeave_90 : decode c_M_toLeave 90 = .ok (.iload_n 2, 1) := by decide +kernel
theorem d_M_toLeave_91 : decode c_M_toLeave 91 = .ok (.iconst 4, 1) := by decide +kernel
theorem d_M_toLeave_92 : decode c_M_toLeave 92 = .ok (.iload_n 3, 1) := by decide +kernel
theorem d_M_toLeave_93 : decode c_M_toLeave 93 = .ok (.iload_n 3, 1) := by decide +kernel
theorem d_M_toLeave_94 : decode c_M_toLeave 94 = .ok (.iconst 0, 1) := by decide +kernel
theorem d_M_toLeave_95 : decode c_M_toLeave 95 = .ok (.invokevirtual 130, 3) := by decide +kernel
theorem d_M_toLeave_98 : decode c_M_toLeave 98 = .ok (.return_, 1) := by decide +kernel
theorem d_M_toCore_0 : decode c_M_toCore 0 = .ok (.iconst 4, 1) := by decide +kernel
theorem d_M_toCore_1 : decode c_M_toCore 1 = .ok (.iload_n 3, 1) := by decide +kernel
theorem d_M_toCore_2 : decode c_M_toCore 2 = .ok (.imul, 1) := by decide +kernel
theorem d_M_toCore_3 : decode c_M_toCore 3 = .ok (.iload_n 2, 1) := by decide +kernel
theorem d_M_toCore_4 : decode c_M_toCore 4 = .ok (.iadd, 1) := by decide +kernel
theorem d_M_toCore_5 : decode c_M_toCore 5 = .ok (.istore 7, 2) := by decide +kernel
theorem d_M_toCore_7 : decode c_M_toCore 7 = .ok (.aload_n 0, 1) := by decide +kernel
theorem d_M_toCore_8 : decode c_M_toCore 8 = .ok (.getfield 7, 3) := by decide +kernel
theorem d_M_toCore_11 : decode c_M_toCore 11 = .ok (.iload 7, 2) := by decide +kernel
theorem d_M_toCore_13 : decode c_M_toCore 13 = .ok (.iaload, 1) := by decide +kernel
theorem d_M_toCore_14 : decode c_M_toCore 14 = .ok (.istore 8, 2) := by decide +kernel
theorem d_M_toCore_16 : decode c_M_toCore 16 = .ok (.iload_n 1, 1) := by decide +kernel
theorem d_M_toCore_17 : decode c_M_toCore 17 = .ok (.bipush 8, 2) := by decide +kernel
theorem d_M_toCore_19 : decode c_M_toCore 19 = .ok (.if_icmp .ge 163, 3) := by decide +kernel
theorem d_M_toCore_22 : decode c_M_toCore 22 = .ok (.aload_n 0, 1) := by decide +kernel
theorem d_M_toCore_23 : decode c_M_toCore 23 = .ok (.getfield 7, 3) := by decide +kernel
theorem d_M_toCore_26 : decode c_M_toCore 26 = .ok (.iload 7, 2) := by decide +kernel
theorem d_M_toCore_28 : decode c_M_toCore 28 = .ok (.iload_n 1, 1) := by decide +kernel
theorem d_M_toCore_29 : decode c_M_toCore 29 = .ok (.iload 8, 2) := by decide +kernel
theorem d_M_toCore_31 : decode c_M_toCore 31 = .ok (.invokestatic 101, 3) := by decide +kernel
theorem d_M_toCore_34 : decode c_M_toCore 34 = .ok (.iastore, 1) := by decide +kernel
theorem d_M_toCore_35 : decode c_M_toCore 35 = .ok (.iload 8, 2) := by decide +kernel
theorem d_M_toCore_37 : decode c_M_toCore 37 = .ok (.iconst 2, 1) := by decide +kernel
theorem d_M_toCore_38 : decode c_M_toCore 38 = .ok (.if_icmp .eq 23, 3) := by decide +kernel
theorem d_M_toCore_41 : decode c_M_toCore 41 = .ok (.iload 8, 2) := by decide +kernel
theorem d_M_toCore_43 : decode c_M_toCore 43 = .ok (.iconst 3, 1) := by decide +kernel
theorem d_M_toCore_44 : decode c_M_toCore 44 = .ok (.if_icmp .eq 17, 3) := by decide +kernel
theorem d_M_toCore_47 : decode c_M_toCore 47 = .ok (.iload 8, 2) := by decide +kernel
theorem d_M_toCore_49 : decode c_M_toCore 49 = .ok (.bipush 9, 2) := by decide +kernel
theorem d_M_toCore_51 : decode c_M_toCore 51 = .ok (.if_icmp .eq 10, 3) := by decide +kernel
theorem d_M_toCore_54 : decode c_M_toCore 54 = .ok (.iload 8, 2) := by decide +kernel
theorem d_M_toCore_56 : decode c_M_toCore 56 = .ok (.bipush 10, 2) := by decide +kernel
theorem d_M_toCore_58 : decode c_M_toCore 58 = .ok (.if_icmp .ne 7, 3) := by decide +kernel
theorem d_M_toCore_61 : decode c_M_toCore 61 = .ok (.iconst 1, 1) := by decide +kernel
theorem d_M_toCore_62 : decode c_M_toCore 62 = .ok (.goto 4, 3) := by decide +kernel
theorem d_M_toCore_65 : decode c_M_toCore 65 = .ok (.iconst 0, 1) := by decide +kernel
theorem d_M_toCore_66 : decode c_M_toCore 66 = .ok (.istore 9, 2) := by decide +kernel
theorem d_M_toCore_68 : decode c_M_toCore 68 = .ok (.iload 8, 2) := by decide +kernel
theorem d_M_toCore_70 : decode c_M_toCore 70 = .ok (.iconst 1, 1) := by decide +kernel
theorem d_M_toCore_71 : decode c_M_toCore 71 = .ok (.if_icmp .eq 17, 3) := by decide +kernel
theorem d_M_toCore_74 : decode c_M_toCore 74 = .ok (.iload 8, 2) := by decide +kernel
theorem d_M_toCore_76 : decode c_M_toCore 76 = .ok (.bipush 7, 2) := by decide +kernel
theorem d_M_toCore_78 : decode c_M_toCore 78 = .ok (.if_icmp .eq 10, 3) := by decide +kernel
theorem d_M_toCore_81 : decode c_M_toCore 81 = .ok (.iload 8, 2) := by decide +kernel
theorem d_M_toCore_83 : decode c_M_toCore 83 = .ok (.bipush 11, 2) := by decide +kernel
theorem d_M_toCore_85 : decode c_M_toCore 85 = .ok (.if_icmp .ne 7, 3) := by decide +kernel
theorem d_M_toCore_88 : decode c_M_toCore 88 = .ok (.iconst 1, 1) := by decide +kernel
theorem d_M_toCore_89 : decode c_M_toCore 89 = .ok (.goto 4, 3) := by decide +kernel
theorem d_M_toCore_92 : decode c_M_toCore 92 = .ok (.iconst 0, 1) := by decide +kernel
theorem d_M_toCore_93 : decode c_M_toCore 93 = .ok (.istore 10, 2) := by decide +kernel
theorem d_M_toCore_95 : decode c_M_toCore 95 = .ok (.iload_n 1, 1) := by decide +kernel
theorem d_M_toCore_96 : decode c_M_toCore 96 = .ok (.bipush 7, 2) := by decide +kernel
theorem d_M_toCore_98 : decode c_M_toCore 98 = .ok (.if_icmp .ge 28, 3) := by decide +kernel
theorem d_M_toCore_101 : decode c_M_toCore 101 = .ok (.iload 9, 2) := by decide +kernel
theorem d_M_toCore_103 : decode c_M_toCore 103 = .ok (.ifCond .eq 23, 3) := by decide +kernel
theorem d_M_toCore_106 : decode c_M_toCore 106 = .ok (.aload_n 0, 1) := by decide +kernel
theorem d_M_toCore_107 : decode c_M_toCore 107 = .ok (.bipush 9, 2) := by decide +kernel
theorem d_M_toCore_109 : decode c_M_toCore 109 = .ok (.iload_n 2, 1) := by decide +kernel
theorem d_M_toCore_110 : decode c_M_toCore 110 = .ok (.iload_n 3, 1) := by decide +kernel
theorem d_M_toCore_111 : decode c_M_toCore 111 = .ok (.iload 4, 2) := by decide +kernel
theorem d_M_toCore_113 : decode c_M_toCore 113 = .ok (.iload 4, 2) := by decide +kernel
theorem d_M_toCore_115 : decode c_M_toCore 115 = .ok (.iconst 0, 1) := by decide +kernel
theorem d_M_toCore_116 : decode c_M_toCore 116 = .ok (.aload_n 0, 1) := by decide +kernel
theorem d_M_toCore_117 : decode c_M_toCore 117 = .ok (.getfield 13, 3) := by decide +kernel
theorem d_M_toCore_120 : decode c_M_toCore 120 = .ok (.iload 7, 2) := by decide +kernel
theorem d_M_toCore_122 : decode c_M_toCore 122 = .ok (.iaload, 1) := by decide +kernel
theorem d_M_toCore_123 : decode c_M_toCore 123 = .ok (.invokevirtual 77, 3) := by decide +kernel
theorem d_M_toCore_126 : decode c_M_toCore 126 = .ok (.iload_n 1, 1) := by decide +kernel
theorem d_M_toCore_127 : decode c_M_toCore 127 = .ok (.iconst 5, 1) := by decide +kernel
theorem d_M_toCore_128 : decode c_M_toCore 128 = .ok (.if_icmp .ne 27, 3) := by decide +kernel
theorem d_M_toCore_131 : decode c_M_toCore 131 = .ok (.iload 9, 2) := by decide +kernel
theorem d_M_toCore_133 : decode c_M_toCore 133 = .ok (.ifCond .eq 22, 3) := by decide +kernel
theorem d_M_toCore_136 : decode c_M_toCore 136 = .ok (.aload_n 0, 1) := by decide +kernel
theorem d_M_toCore_137 : decode c_M_toCore 137 = .ok (.bipush 9, 2) := by decide +kernel
theorem d_M_toCore_139 : decode c_M_toCore 139 = .ok (.iload_n 2, 1) := by decide +kernel
theorem d_M_toCore_140 : decode c_M_toCore 140 = .ok (.iload_n 3, 1) := by decide +kernel
theorem d_M_toCore_141 : decode c_M_toCore 141 = .ok (.iconst 4, 1) := by decide +kernel
theorem d_M_toCore_142 : decode c_M_toCore 142 = .ok (.iload 4, 2) := by decide +kernel
theorem d_M_toCore_144 : decode c_M_toCore 144 = .ok (.iconst 0, 1) := by decide +kernel
theorem d_M_toCore_145 : decode c_M_toCore 145 = .ok (.aload_n 0, 1) := by decide +kernel
theorem d_M_toCore_146 : decode c_M_toCore 146 = .ok (.getfield 13, 3) := by decide +kernel
theorem d_M_toCore_149 : decode c_M_toCore 149 = .ok (.iload 7, 2) := by decide +kernel
theorem d_M_toCore_151 : decode c_M_toCore 151 = .ok (.iaload, 1) := by decide +kernel
theorem d_M_toCore_152 : decode c_M_toCore 152 = .ok (.invokevirtual 77, 3) := by decide +kernel
theorem d_M_toCore_155 : decode c_M_toCore 155 = .ok (.iload_n 1, 1) := by decide +kernel
theorem d_M_toCore_156 : decode c_M_toCore 156 = .ok (.bipush 7, 2) := by decide +kernel
theorem d_M_toCore_158 : decode c_M_toCore 158 = .ok (.if_icmp .ne 21, 3) := by decide +kernel
theorem d_M_toCore_161 : decode c_M_toCore 161 = .ok (.iload 10, 2) := by decide +kernel
theorem d_M_toCore_163 : decode c_M_toCore 163 = .ok (.ifCond .eq 16, 3) := by decide +kernel
theorem d_M_toCore_166 : decode c_M_toCore 166 = .ok (.aload_n 0, 1) := by decide +kernel
theorem d_M_toCore_167 : decode c_M_toCore 167 = .ok (.bipush 11, 2) := by decide +kernel
theorem d_M_toCore_169 : decode c_M_toCore 169 = .ok (.iload_n 2, 1) := by decide +kernel
theorem d_M_toCore_170 : decode c_M_toCore 170 = .ok (.iload_n 3, 1) := by decide +kernel
theorem d_M_toCore_171 : decode c_M_toCore 171 = .ok (.iload 4, 2) := by decide +kernel
theorem d_M_toCore_173 : decode c_M_toCore 173 = .ok (.iload 4, 2) := by decide +kernel
theorem d_M_toCore_175 : decode c_M_toCore 175 = .ok (.iconst 0, 1) := by decide +kernel
theorem d_M_toCore_176 : decode c_M_toCore 176 = .ok (.invokevirtual 130, 3) := by decide +kernel
theorem d_M_toCore_179 : decode c_M_toCore 179 = .ok (.goto 151, 3) := by decide +kernel
theorem d_M_toCore_182 : decode c_M_toCore 182 = .ok (.iload_n 1, 1) := by decide +kernel
theorem d_M_toCore_183 : decode c_M_toCore 183 = .ok (.bipush 8, 2) := by decide +kernel
theorem d_M_toCore_185 : decode c_M_toCore 185 = .ok (.if_icmp .ne 14, 3) := by decide +kernel
theorem d_M_toCore_188 : decode c_M_toCore 188 = .ok (.aload_n 0, 1) := by decide +kernel
theorem d_M_toCore_189 : decode c_M_toCore 189 = .ok (.getfield 7, 3) := by decide +kernel
theorem d_M_toCore_192 : decode c_M_toCore 192 = .ok (.iload 7, 2) := by decide +kernel
theorem d_M_toCore_194 : decode c_M_toCore 194 = .ok (.iconst 0, 1) := by decide +kernel
theorem d_M_toCore_195 : decode c_M_toCore 195 = .ok (.iastore, 1) := by decide +kernel
theorem d_M_toCore_196 : decode c_M_toCore 196 = .ok (.goto 134, 3) := by decide +kernel
theorem d_M_toCore_199 : decode c_M_toCore 199 = .ok (.iload_n 1, 1) := by decide +kernel
theorem d_M_toCore_200 : decode c_M_toCore 200 = .ok (.bipush 11, 2) := by decide +kernel
theorem d_M_toCore_202 : decode c_M_toCore 202 = .ok (.if_icmp .ne 37, 3) := by decide +kernel
theorem d_M_toCore_205 : decode c_M_toCore 205 = .ok (.aload_n 0, 1) := by decide +kernel
theorem d_M_toCore_206 : decode c_M_toCore 206 = .ok (.getfield 19, 3) := by decide +kernel
theorem d_M_toCore_209 : decode c_M_toCore 209 = .ok (.iload 7, 2) := by decide +kernel
theorem d_M_toCore_211 : decode c_M_toCore 211 = .ok (.dup2, 1) := by decide +kernel
theorem d_M_toCore_212 : decode c_M_toCore 212 = .ok (.iaload, 1) := by decide +kernel
theorem d_M_toCore_213 : decode c_M_toCore 213 = .ok (.iconst 1, 1) := by decide +kernel
theorem d_M_toCore_214 : decode c_M_toCore 214 = .ok (.iadd, 1) := by decide +kernel
theorem d_M_toCore_215 : decode c_M_toCore 215 = .ok (.iastore, 1) := by decide +kernel
theorem d_M_toCore_216 : decode c_M_toCore 216 = .ok (.iload 8, 2) := by decide +kernel
theorem d_M_toCore_218 : decode c_M_toCore 218 = .ok (.bipush 6, 2) := by decide +kernel
theorem d_M_toCore_220 : decode c_M_toCore 220 = .ok (.if_icmp .eq 10, 3) := by decide +kernel
theorem d_M_toCore_223 : decode c_M_toCore 223 = .ok (.iload 8, 2) := by decide +kernel
theorem d_M_toCore_225 : decode c_M_toCore 225 = .ok (.bipush 8, 2) := by decide +kernel
theorem d_M_toCore_227 : decode c_M_toCore 227 = .ok (.if_icmp .ne 103, 3) := by decide +kernel
theorem d_M_toCore_230 : decode c_M_toCore 230 = .ok (.aload_n 0, 1) := by decide +kernel
theorem d_M_toCore_231 : decode c_M_toCore 231 = .ok (.iload_n 3, 1) := by decide +kernel
theorem d_M_toCore_232 : decode c_M_toCore 232 = .ok (.iload_n 2, 1) := by decide +kernel
theorem d_M_toCore_233 : decode c_M_toCore 233 = .ok (.invokevirtual 133, 3) := by decide +kernel
theorem d_M_toCore_236 : decode c_M_toCore 236 = .ok (.goto 94, 3) := by decide +kernel
theorem d_M_toCore_239 : decode c_M_toCore 239 = .ok (.aload_n 0, 1) := by decide +kernel
theorem d_M_toCore_240 : decode c_M_toCore 240 = .ok (.getfield 13, 3) := by decide +kernel
theorem d_M_toCore_243 : decode c_M_toCore 243 = .ok (.iload 7, 2) := by decide +kernel
theorem d_M_toCore_245 : decode c_M_toCore 245 = .ok (.iload 6, 2) := by decide +kernel
theorem d_M_toCore_247 : decode c_M_toCore 247 = .ok (.iastore, 1) := by decide +kernel
theorem d_M_toCore_248 : decode c_M_toCore 248 = .ok (.iload_n 1, 1) := by decide +kernel
theorem d_M_toCore_249 : decode c_M_toCore 249 = .ok (.bipush 10, 2) := by decide +kernel
theorem d_M_toCore_251 : decode c_M_toCore 251 = .ok (.if_icmp .ne 20, 3) := by decide +kernel
theorem d_M_toCore_254 : decode c_M_toCore 254 = .ok (.aload_n 0, 1) := by decide +kernel
theorem d_M_toCore_255 : decode c_M_toCore 255 = .ok (.getfield 7, 3) := by decide +kernel
theorem d_M_toCore_258 : decode c_M_toCore 258 = .ok (.iload 7, 2) := by decide +kernel
theorem d_M_toCore_260 : decode c_M_toCore 260 = .ok (.iconst 2, 1) := by decide +kernel
theorem d_M_toCore_261 : decode c_M_toCore 261 = .ok (.iastore, 1) := by decide +kernel
theorem d_M_toCore_262 : decode c_M_toCore 262 = .ok (.aload_n 0, 1) := by decide +kernel
theorem d_M_toCore_263 : decode c_M_toCore 263 = .ok (.iload_n 3, 1) := by decide +kernel
theorem d_M_toCore_264 : decode c_M_toCore 264 = .ok (.iload_n 2, 1) := by decide +kernel
theorem d_M_toCore_265 : decode c_M_toCore 265 = .ok (.invokevirtual 136, 3) := by decide +kernel
theorem d_M_toCore_268 : decode c_M_toCore 268 = .ok (.goto 62, 3) := by decide +kernel
theorem d_M_toCore_271 : decode c_M_toCore 271 = .ok (.iload 8, 2) := by decide +kernel
theorem d_M_toCore_273 : decode c_M_toCore 273 = .ok (.iconst 4, 1) := by decide +kernel
theorem d_M_toCore_274 : decode c_M_toCore 274 = .ok (.if_icmp .ne 20, 3) := by decide +kernel
theorem d_M_toCore_277 : decode c_M_toCore 277 = .ok (.aload_n 0, 1) := by decide +kernel
theorem d_M_toCore_278 : decode c_M_toCore 278 = .ok (.getfield 7, 3) := by decide +kernel
theorem d_M_toCore_281 : decode c_M_toCore 281 = .ok (.iload 7, 2) := by decide +kernel
theorem d_M_toCore_283 : decode c_M_toCore 283 = .ok (.iconst 1, 1) := by decide +kernel
theorem d_M_toCore_284 : decode c_M_toCore 284 = .ok (.iastore, 1) := by decide +kernel
theorem d_M_toCore_285 : decode c_M_toCore 285 = .ok (.aload_n 0, 1) := by decide +kernel
theorem d_M_toCore_286 : decode c_M_toCore 286 = .ok (.iload_n 3, 1) := by decide +kernel
theorem d_M_toCore_287 : decode c_M_toCore 287 = .ok (.iload_n 2, 1) := by decide +kernel
theorem d_M_toCore_288 : decode c_M_toCore 288 = .ok (.invokevirtual 136, 3) := by decide +kernel
theorem d_M_toCore_291 : decode c_M_toCore 291 = .ok (.goto 39, 3) := by decide +kernel
theorem d_M_toCore_294 : decode c_M_toCore 294 = .ok (.aload_n 0, 1) := by decide +kernel
theorem d_M_toCore_295 : decode c_M_toCore 295 = .ok (.getfield 16, 3) := by decide +kernel
theorem d_M_toCore_298 : decode c_M_toCore 298 = .ok (.iload 7, 2) := by decide +kernel
theorem d_M_toCore_300 : decode c_M_toCore 300 = .ok (.iload 5, 2) := by decide +kernel
theorem d_M_toCore_302 : decode c_M_toCore 302 = .ok (.iastore, 1) := by decide +kernel
theorem d_M_toCore_303 : decode c_M_toCore 303 = .ok (.aload_n 0, 1) := by decide +kernel
theorem d_M_toCore_304 : decode c_M_toCore 304 = .ok (.getfield 7, 3) := by decide +kernel
theorem d_M_toCore_307 : decode c_M_toCore 307 = .ok (.iload 7, 2) := by decide +kernel
theorem d_M_toCore_309 : decode c_M_toCore 309 = .ok (.iload 8, 2) := by decide +kernel
theorem d_M_toCore_311 : decode c_M_toCore 311 = .ok (.bipush 7, 2) := by decide +kernel
theorem d_M_toCore_313 : decode c_M_toCore 313 = .ok (.if_icmp .ne 8, 3) := by decide +kernel
theorem d_M_toCore_316 : decode c_M_toCore 316 = .ok (.bipush 8, 2) := by decide +kernel
theorem d_M_toCore_318 : decode c_M_toCore 318 = .ok (.goto 5, 3) := by decide +kernel
theorem d_M_toCore_321 : decode c_M_toCore 321 = .ok (.bipush 6, 2) := by decide +kernel
theorem d_M_toCore_323 : decode c_M_toCore 323 = .ok (.iastore, 1) := by decide +kernel
theorem d_M_toCore_324 : decode c_M_toCore 324 = .ok (.aload_n 0, 1) := by decide +kernel
theorem d_M_toCore_325 : decode c_M_toCore 325 = .ok (.iload_n 3, 1) := by decide +kernel
theorem d_M_toCore_326 : decode c_M_toCore 326 = .ok (.iload_n 2, 1) := by decide +kernel
theorem d_M_toCore_327 : decode c_M_toCore 327 = .ok (.invokevirtual 133, 3) := by decide +kernel
theorem d_M_toCore_330 : decode c_M_toCore 330 = .ok (.return_, 1) := by decide +kernel
theorem d_M_acknowledged_0 : decode c_M_acknowledged 0 = .ok (.iconst 4, 1) := by decide +kernel
theorem d_M_acknowledged_1 : decode c_M_acknowledged 1 = .ok (.iload_n 1, 1) := by decide +kernel
theorem d_M_acknowledged_2 : decode c_M_acknowledged 2 = .ok (.imul, 1) := by decide +kernel
theorem d_M_acknowledged_3 : decode c_M_acknowledged 3 = .ok (.iload_n 2, 1) := by decide +kernel
theorem d_M_acknowledged_4 : decode c_M_acknowledged 4 = .ok (.iadd, 1) := by decide +kernel
theorem d_M_acknowledged_5 : decode c_M_acknowledged 5 = .ok (.istore_n 3, 1) := by decide +kernel
theorem d_M_acknowledged_6 : decode c_M_acknowledged 6 = .ok (.aload_n 0, 1) := by decide +kernel
theorem d_M_acknowledged_7 : decode c_M_acknowledged 7 = .ok (.getfield 19, 3) := by decide +kernel
theorem d_M_acknowledged_10 : decode c_M_acknowledged 10 = .ok (.iload_n 3, 1) := by decide +kernel
theorem d_M_acknowledged_11 : decode c_M_acknowledged 11 = .ok (.iaload, 1) := by decide +kernel
theorem d_M_acknowledged_12 : decode c_M_acknowledged 12 = .ok (.aload_n 0, 1) := by decide +kernel
theorem d_M_acknowledged_13 : decode c_M_acknowledged 13 = .ok (.getfield 16, 3) := by decide +kernel
theorem d_M_acknowledged_16 : decode c_M_acknowledged 16 = .ok (.iload_n 3, 1) := by decide +kernel
theorem d_M_acknowledged_17 : decode c_M_acknowledged 17 = .ok (.iaload, 1) := by decide +kernel
theorem d_M_acknowledged_18 : decode c_M_acknowledged 18 = .ok (.if_icmp .eq 4, 3) := by decide +kernel
theorem d_M_acknowledged_21 : decode c_M_acknowledged 21 = .ok (.return_, 1) := by decide +kernel
theorem d_M_acknowledged_22 : decode c_M_acknowledged 22 = .ok (.aload_n 0, 1) := by decide +kernel
theorem d_M_acknowledged_23 : decode c_M_acknowledged 23 = .ok (.getfield 7, 3) := by decide +kernel
theorem d_M_acknowledged_26 : decode c_M_acknowledged 26 = .ok (.iload_n 3, 1) := by decide +kernel
theorem d_M_acknowledged_27 : decode c_M_acknowledged 27 = .ok (.iconst 3, 1) := by decide +kernel
theorem d_M_acknowledged_28 : decode c_M_acknowledged 28 = .ok (.iastore, 1) := by decide +kernel
theorem d_M_acknowledged_29 : decode c_M_acknowledged 29 = .ok (.aload_n 0, 1) := by decide +kernel
theorem d_M_acknowledged_30 : decode c_M_acknowledged 30 = .ok (.iload_n 1, 1) := by decide +kernel
theorem d_M_acknowledged_31 : decode c_M_acknowledged 31 = .ok (.iload_n 2, 1) := by decide +kernel
theorem d_M_acknowledged_32 : decode c_M_acknowledged 32 = .ok (.invokevirtual 136, 3) := by decide +kernel
theorem d_M_acknowledged_35 : decode c_M_acknowledged 35 = .ok (.return_, 1) := by decide +kernel
theorem d_M_finish_0 : decode c_M_finish 0 = .ok (.iconst 4, 1) := by decide +kernel
theorem d_M_finish_1 : decode c_M_finish 1 = .ok (.iload_n 1, 1) := by decide +kernel
theorem d_M_finish_2 : decode c_M_finish 2 = .ok (.imul, 1) := by decide +kernel
theorem d_M_finish_3 : decode c_M_finish 3 = .ok (.iload_n 2, 1) := by decide +kernel
theorem d_M_finish_4 : decode c_M_finish 4 = .ok (.iadd, 1) := by decide +kernel
theorem d_M_finish_5 : decode c_M_finish 5 = .ok (.istore_n 3, 1) := by decide +kernel
theorem d_M_finish_6 : decode c_M_finish 6 = .ok (.aload_n 0, 1) := by decide +kernel
theorem d_M_finish_7 : decode c_M_finish 7 = .ok (.getfield 13, 3) := by decide +kernel
theorem d_M_finish_10 : decode c_M_finish 10 = .ok (.iload_n 3, 1) := by decide +kernel
theorem d_M_finish_11 : decode c_M_finish 11 = .ok (.iaload, 1) := by decide +kernel
theorem d_M_finish_12 : decode c_M_finish 12 = .ok (.istore 4, 2) := by decide +kernel
theorem d_M_finish_14 : decode c_M_finish 14 = .ok (.aload_n 0, 1) := by decide +kernel
theorem d_M_finish_15 : decode c_M_finish 15 = .ok (.getfield 32, 3) := by decide +kernel
theorem d_M_finish_18 : decode c_M_finish 18 = .ok (.iload_n 1, 1) := by decide +kernel
theorem d_M_finish_19 : decode c_M_finish 19 = .ok (.iaload, 1) := by decide +kernel
theorem d_M_finish_20 : decode c_M_finish 20 = .ok (.iconst 1, 1) := by decide +kernel
theorem d_M_finish_21 : decode c_M_finish 21 = .ok (.if_icmp .ne 11, 3) := by decide +kernel
theorem d_M_finish_24 : decode c_M_finish 24 = .ok (.aload_n 0, 1) := by decide +kernel
theorem d_M_finish_25 : decode c_M_finish 25 = .ok (.getfield 35, 3) := by decide +kernel
theorem d_M_finish_28 : decode c_M_finish 28 = .ok (.iload_n 1, 1) := by decide +kernel
theorem d_M_finish_29 : decode c_M_finish 29 = .ok (.iaload, 1) := by decide +kernel
theorem d_M_finish_30 : decode c_M_finish 30 = .ok (.istore 4, 2) := by decide +kernel
theorem d_M_finish_32 : decode c_M_finish 32 = .ok (.aload_n 0, 1) := by decide +kernel
theorem d_M_finish_33 : decode c_M_finish 33 = .ok (.getfield 32, 3) := by decide +kernel
theorem d_M_finish_36 : decode c_M_finish 36 = .ok (.iload_n 1, 1) := by decide +kernel
theorem d_M_finish_37 : decode c_M_finish 37 = .ok (.iaload, 1) := by decide +kernel
theorem d_M_finish_38 : decode c_M_finish 38 = .ok (.ifCond .le 44, 3) := by decide +kernel
theorem d_M_finish_41 : decode c_M_finish 41 = .ok (.aload_n 0, 1) := by decide +kernel
theorem d_M_finish_42 : decode c_M_finish 42 = .ok (.getfield 13, 3) := by decide +kernel
theorem d_M_finish_45 : decode c_M_finish 45 = .ok (.iload_n 3, 1) := by decide +kernel
theorem d_M_finish_46 : decode c_M_finish 46 = .ok (.aload_n 0, 1) := by decide +kernel
theorem d_M_finish_47 : decode c_M_finish 47 = .ok (.getfield 32, 3) := by decide +kernel
theorem d_M_finish_50 : decode c_M_finish 50 = .ok (.iload_n 1, 1) := by decide +kernel
theorem d_M_finish_51 : decode c_M_finish 51 = .ok (.iaload, 1) := by decide +kernel
theorem d_M_finish_52 : decode c_M_finish 52 = .ok (.iconst 1, 1) := by decide +kernel
theorem d_M_finish_53 : decode c_M_finish 53 = .ok (.if_icmp .ne 12, 3) := by decide +kernel
theorem d_M_finish_56 : decode c_M_finish 56 = .ok (.aload_n 0, 1) := by decide +kernel
theorem d_M_finish_57 : decode c_M_finish 57 = .ok (.getfield 35, 3) := by decide +kernel
theorem d_M_finish_60 : decode c_M_finish 60 = .ok (.iload_n 1, 1) := by decide +kernel
theorem d_M_finish_61 : decode c_M_finish 61 = .ok (.iaload, 1) := by decide +kernel
theorem d_M_finish_62 : decode c_M_finish 62 = .ok (.goto 12, 3) := by decide +kernel
theorem d_M_finish_65 : decode c_M_finish 65 = .ok (.iload 4, 2) := by decide +kernel
theorem d_M_finish_67 : decode c_M_finish 67 = .ok (.aload_n 0, 1) := by decide +kernel
theorem d_M_finish_68 : decode c_M_finish 68 = .ok (.getfield 35, 3) := by decide +kernel
theorem d_M_finish_71 : decode c_M_finish 71 = .ok (.iload_n 1, 1) := by decide +kernel
theorem d_M_finish_72 : decode c_M_finish 72 = .ok (.iaload, 1) := by decide +kernel
theorem d_M_finish_73 : decode c_M_finish 73 = .ok (.iadd, 1) := by decide +kernel
theorem d_M_finish_74 : decode c_M_finish 74 = .ok (.iastore, 1) := by decide +kernel
theorem d_M_finish_75 : decode c_M_finish 75 = .ok (.aload_n 0, 1) := by decide +kernel
theorem d_M_finish_76 : decode c_M_finish 76 = .ok (.getfield 7, 3) := by decide +kernel
theorem d_M_finish_79 : decode c_M_finish 79 = .ok (.iload_n 3, 1) := by decide +kernel
theorem d_M_finish_80 : decode c_M_finish 80 = .ok (.iconst 3, 1) := by decide +kernel
theorem d_M_finish_81 : decode c_M_finish 81 = .ok (.iastore, 1) := by decide +kernel
theorem d_M_finish_82 : decode c_M_finish 82 = .ok (.aload_n 0, 1) := by decide +kernel
theorem d_M_finish_83 : decode c_M_finish 83 = .ok (.getfield 41, 3) := by decide +kernel
theorem d_M_finish_86 : decode c_M_finish 86 = .ok (.iload_n 1, 1) := by decide +kernel
theorem d_M_finish_87 : decode c_M_finish 87 = .ok (.iload 4, 2) := by decide +kernel
theorem d_M_finish_89 : decode c_M_finish 89 = .ok (.iastore, 1) := by decide +kernel
theorem d_M_finish_90 : decode c_M_finish 90 = .ok (.aload_n 0, 1) := by decide +kernel
theorem d_M_finish_91 : decode c_M_finish 91 = .ok (.getfield 38, 3) := by decide +kernel
theorem d_M_finish_94 : decode c_M_finish 94 = .ok (.iload_n 1, 1) := by decide +kernel
theorem d_M_finish_95 : decode c_M_finish 95 = .ok (.dup2, 1) := by decide +kernel
theorem d_M_finish_96 : decode c_M_finish 96 = .ok (.iaload, 1) := by decide +kernel
theorem d_M_finish_97 : decode c_M_finish 97 = .ok (.iconst 1, 1) := by decide +kernel
theorem d_M_finish_98 : decode c_M_finish 98 = .ok (.iadd, 1) := by decide +kernel
theorem d_M_finish_99 : decode c_M_finish 99 = .ok (.iastore, 1) := by decide +kernel
theorem d_M_finish_100 : decode c_M_finish 100 = .ok (.aload_n 0, 1) := by decide +kernel
theorem d_M_finish_101 : decode c_M_finish 101 = .ok (.getfield 25, 3) := by decide +kernel
theorem d_M_finish_104 : decode c_M_finish 104 = .ok (.iload_n 1, 1) := by decide +kernel
theorem d_M_finish_105 : decode c_M_finish 105 = .ok (.iconst 0, 1) := by decide +kernel
theorem d_M_finish_106 : decode c_M_finish 106 = .ok (.bastore, 1) := by decide +kernel
theorem d_M_finish_107 : decode c_M_finish 107 = .ok (.return_, 1) := by decide +kernel
theorem d_M_start_0 : decode c_M_start 0 = .ok (.iload_n 1, 1) := by decide +kernel
theorem d_M_start_1 : decode c_M_start 1 = .ok (.invokestatic 139, 3) := by decide +kernel
theorem d_M_start_4 : decode c_M_start 4 = .ok (.ifCond .eq 10, 3) := by decide +kernel
theorem d_M_start_7 : decode c_M_start 7 = .ok (.iload_n 2, 1) := by decide +kernel
theorem d_M_start_8 : decode c_M_start 8 = .ok (.invokestatic 139, 3) := by decide +kernel
theorem d_M_start_11 : decode c_M_start 11 = .ok (.ifCond .ne 5, 3) := by decide +kernel
theorem d_M_start_14 : decode c_M_start 14 = .ok (.iconst (-1), 1) := by decide +kernel
theorem d_M_start_15 : decode c_M_start 15 = .ok (.ireturn, 1) := by decide +kernel
theorem d_M_start_16 : decode c_M_start 16 = .ok (.iconst 4, 1) := by decide +kernel
theorem d_M_start_17 : decode c_M_start 17 = .ok (.iload_n 1, 1) := by decide +kernel
theorem d_M_start_18 : decode c_M_start 18 = .ok (.imul, 1) := by decide +kernel
theorem d_M_start_19 : decode c_M_start 19 = .ok (.iload_n 2, 1) := by decide +kernel
theorem d_M_start_20 : decode c_M_start 20 = .ok (.iadd, 1) := by decide +kernel
theorem d_M_start_21 : decode c_M_start 21 = .ok (.istore 5, 2) := by decide +kernel
theorem d_M_start_23 : decode c_M_start 23 = .ok (.aload_n 0, 1) := by decide +kernel
theorem d_M_start_24 : decode c_M_start 24 = .ok (.getfield 25, 3) := by decide +kernel
theorem d_M_start_27 : decode c_M_start 27 = .ok (.iload_n 1, 1) := by decide +kernel
theorem d_M_start_28 : decode c_M_start 28 = .ok (.baload, 1) := by decide +kernel
theorem d_M_start_29 : decode c_M_start 29 = .ok (.ifCond .ne 14, 3) := by decide +kernel
theorem d_M_start_32 : decode c_M_start 32 = .ok (.aload_n 0, 1) := by decide +kernel
theorem d_M_start_33 : decode c_M_start 33 = .ok (.getfield 7, 3) := by decide +kernel
theorem d_M_start_36 : decode c_M_start 36 = .ok (.iload 5, 2) := by decide +kernel
theorem d_M_start_38 : decode c_M_start 38 = .ok (.iaload, 1) := by decide +kernel
theorem d_M_start_39 : decode c_M_start 39 = .ok (.iconst 3, 1) := by decide +kernel
theorem d_M_start_40 : decode c_M_start 40 = .ok (.if_icmp .le 6, 3) := by decide +kernel
theorem d_M_start_43 : decode c_M_start 43 = .ok (.bipush (-2), 2) := by decide +kernel
theorem d_M_start_45 : decode c_M_start 45 = .ok (.ireturn, 1) := by decide +kernel
theorem d_M_start_46 : decode c_M_start 46 = .ok (.aload_n 0, 1) := by decide +kernel
theorem d_M_start_47 : decode c_M_start 47 = .ok (.getfield 32, 3) := by decide +kernel
theorem d_M_start_50 : decode c_M_start 50 = .ok (.iload_n 1, 1) := by decide +kernel
theorem d_M_start_51 : decode c_M_start 51 = .ok (.iload_n 3, 1) := by decide +kernel
theorem d_M_start_52 : decode c_M_start 52 = .ok (.iastore, 1) := by decide +kernel
theorem d_M_start_53 : decode c_M_start 53 = .ok (.aload_n 0, 1) := by decide +kernel
theorem d_M_start_54 : decode c_M_start 54 = .ok (.getfield 35, 3) := by decide +kernel
theorem d_M_start_57 : decode c_M_start 57 = .ok (.iload_n 1, 1) := by decide +kernel
theorem d_M_start_58 : decode c_M_start 58 = .ok (.iload 4, 2) := by decide +kernel
theorem d_M_start_60 : decode c_M_start 60 = .ok (.iastore, 1) := by decide +kernel
theorem d_M_start_61 : decode c_M_start 61 = .ok (.aload_n 0, 1) := by decide +kernel
theorem d_M_start_62 : decode c_M_start 62 = .ok (.getfield 7, 3) := by decide +kernel
theorem d_M_start_65 : decode c_M_start 65 = .ok (.iload 5, 2) := by decide +kernel
theorem d_M_start_67 : decode c_M_start 67 = .ok (.iaload, 1) := by decide +kernel
theorem d_M_start_68 : decode c_M_start 68 = .ok (.iload_n 3, 1) := by decide +kernel
theorem d_M_start_69 : decode c_M_start 69 = .ok (.ifCond .ne 7, 3) := by decide +kernel
theorem d_M_start_72 : decode c_M_start 72 = .ok (.iconst 0, 1) := by decide +kernel
theorem d_M_start_73 : decode c_M_start 73 = .ok (.goto 4, 3) := by decide +kernel
theorem d_M_start_76 : decode c_M_start 76 = .ok (.iconst 1, 1) := by decide +kernel
theorem d_M_start_77 : decode c_M_start 77 = .ok (.if_icmp .le 11, 3) := by decide +kernel
theorem d_M_start_80 : decode c_M_start 80 = .ok (.aload_n 0, 1) := by decide +kernel
theorem d_M_start_81 : decode c_M_start 81 = .ok (.iload_n 1, 1) := by decide +kernel
theorem d_M_start_82 : decode c_M_start 82 = .ok (.iload_n 2, 1) := by decide +kernel
theorem d_M_start_83 : decode c_M_start 83 = .ok (.invokevirtual 136, 3) := by decide +kernel
theorem d_M_start_86 : decode c_M_start 86 = .ok (.iconst 1, 1) := by decide +kernel
theorem d_M_start_87 : decode c_M_start 87 = .ok (.ireturn, 1) := by decide +kernel
theorem d_M_start_88 : decode c_M_start 88 = .ok (.aload_n 0, 1) := by decide +kernel
theorem d_M_start_89 : decode c_M_start 89 = .ok (.getfield 25, 3) := by decide +kernel
theorem d_M_start_92 : decode c_M_start 92 = .ok (.iload_n 1, 1) := by decide +kernel
theorem d_M_start_93 : decode c_M_start 93 = .ok (.iconst 1, 1) := by decide +kernel
theorem d_M_start_94 : decode c_M_start 94 = .ok (.bastore, 1) := by decide +kernel
theorem d_M_start_95 : decode c_M_start 95 = .ok (.aload_n 0, 1) := by decide +kernel
theorem d_M_start_96 : decode c_M_start 96 = .ok (.getfield 29, 3) := by decide +kernel
theorem d_M_start_99 : decode c_M_start 99 = .ok (.iload_n 1, 1) := by decide +kernel
theorem d_M_start_100 : decode c_M_start 100 = .ok (.iload_n 2, 1) := by decide +kernel
theorem d_M_start_101 : decode c_M_start 101 = .ok (.iastore, 1) := by decide +kernel
theorem d_M_start_102 : decode c_M_start 102 = .ok (.aload_n 0, 1) := by decide +kernel
theorem d_M_start_103 : decode c_M_start 103 = .ok (.getfield 19, 3) := by decide +kernel
theorem d_M_start_106 : decode c_M_start 106 = .ok (.iload 5, 2) := by decide +kernel
theorem d_M_start_108 : decode c_M_start 108 = .ok (.iconst 0, 1) := by decide +kernel
theorem d_M_start_109 : decode c_M_start 109 = .ok (.iastore, 1) := by decide +kernel
theorem d_M_start_110 : decode c_M_start 110 = .ok (.aload_n 0, 1) := by decide +kernel
theorem d_M_start_111 : decode c_M_start 111 = .ok (.getfield 16, 3) := by decide +kernel
theorem d_M_start_114 : decode c_M_start 114 = .ok (.iload 5, 2) := by decide +kernel
theorem d_M_start_116 : decode c_M_start 116 = .ok (.iconst 0, 1) := by decide +kernel
theorem d_M_start_117 : decode c_M_start 117 = .ok (.iastore, 1) := by decide +kernel
theorem d_M_start_118 : decode c_M_start 118 = .ok (.aload_n 0, 1) := by decide +kernel
theorem d_M_start_119 : decode c_M_start 119 = .ok (.getfield 7, 3) := by decide +kernel
theorem d_M_start_122 : decode c_M_start 122 = .ok (.iload 5, 2) := by decide +kernel
theorem d_M_start_124 : decode c_M_start 124 = .ok (.iload_n 3, 1) := by decide +kernel
theorem d_M_start_125 : decode c_M_start 125 = .ok (.ifCond .ne 7, 3) := by decide +kernel
theorem d_M_start_128 : decode c_M_start 128 = .ok (.iconst 4, 1) := by decide +kernel
theorem d_M_start_129 : decode c_M_start 129 = .ok (.goto 20, 3) := by decide +kernel
theorem d_M_start_132 : decode c_M_start 132 = .ok (.aload_n 0, 1) := by decide +kernel
theorem d_M_start_133 : decode c_M_start 133 = .ok (.getfield 7, 3) := by decide +kernel
theorem d_M_start_136 : decode c_M_start 136 = .ok (.iload 5, 2) := by decide +kernel
theorem d_M_start_138 : decode c_M_start 138 = .ok (.iaload, 1) := by decide +kernel
theorem d_M_start_139 : decode c_M_start 139 = .ok (.iconst 1, 1) := by decide +kernel
theorem d_M_start_140 : decode c_M_start 140 = .ok (.if_icmp .ne 8, 3) := by decide +kernel
theorem d_M_start_143 : decode c_M_start 143 = .ok (.bipush 7, 2) := by decide +kernel
theorem d_M_start_145 : decode c_M_start 145 = .ok (.goto 4, 3) := by decide +kernel
theorem d_M_start_148 : decode c_M_start 148 = .ok (.iconst 5, 1) := by decide +kernel
theorem d_M_start_149 : decode c_M_start 149 = .ok (.iastore, 1) := by decide +kernel
theorem d_M_start_150 : decode c_M_start 150 = .ok (.aload_n 0, 1) := by decide +kernel
theorem d_M_start_151 : decode c_M_start 151 = .ok (.iload_n 3, 1) := by decide +kernel
theorem d_M_start_152 : decode c_M_start 152 = .ok (.ifCond .ne 7, 3) := by decide +kernel
theorem d_M_start_155 : decode c_M_start 155 = .ok (.iconst 0, 1) := by decide +kernel
theorem d_M_start_156 : decode c_M_start 156 = .ok (.goto 4, 3) := by decide +kernel
theorem d_M_start_159 : decode c_M_start 159 = .ok (.iconst 1, 1) := by decide +kernel
theorem d_M_start_160 : decode c_M_start 160 = .ok (.iload_n 2, 1) := by decide +kernel
theorem d_M_start_161 : decode c_M_start 161 = .ok (.iload_n 1, 1) := by decide +kernel
theorem d_M_start_162 : decode c_M_start 162 = .ok (.iconst 4, 1) := by decide +kernel
theorem d_M_start_163 : decode c_M_start 163 = .ok (.iload_n 1, 1) := by decide +kernel
theorem d_M_start_164 : decode c_M_start 164 = .ok (.iconst 0, 1) := by decide +kernel
theorem d_M_start_165 : decode c_M_start 165 = .ok (.invokevirtual 130, 3) := by decide +kernel
theorem d_M_start_168 : decode c_M_start 168 = .ok (.iconst 0, 1) := by decide +kernel
theorem d_M_start_169 : decode c_M_start 169 = .ok (.ireturn, 1) := by decide +kernel
theorem d_M_load_0 : decode c_M_load 0 = .ok (.aload_n 0, 1) := by decide +kernel
theorem d_M_load_1 : decode c_M_load 1 = .ok (.iload_n 1, 1) := by decide +kernel
theorem d_M_load_2 : decode c_M_load 2 = .ok (.iload_n 2, 1) := by decide +kernel
theorem d_M_load_3 : decode c_M_load 3 = .ok (.iconst 0, 1) := by decide +kernel
theorem d_M_load_4 : decode c_M_load 4 = .ok (.iconst 0, 1) := by decide +kernel
theorem d_M_load_5 : decode c_M_load 5 = .ok (.invokevirtual 142, 3) := by decide +kernel
theorem d_M_load_8 : decode c_M_load 8 = .ok (.ireturn, 1) := by decide +kernel
theorem d_M_store_0 : decode c_M_store 0 = .ok (.aload_n 0, 1) := by decide +kernel
theorem d_M_store_1 : decode c_M_store 1 = .ok (.iload_n 1, 1) := by decide +kernel
theorem d_M_store_2 : decode c_M_store 2 = .ok (.iload_n 2, 1) := by decide +kernel
theorem d_M_store_3 : decode c_M_store 3 = .ok (.iconst 1, 1) := by decide +kernel
theorem d_M_store_4 : decode c_M_store 4 = .ok (.iload_n 3, 1) := by decide +kernel
theorem d_M_store_5 : decode c_M_store 5 = .ok (.invokevirtual 142, 3) := by decide +kernel
theorem d_M_store_8 : decode c_M_store 8 = .ok (.ireturn, 1) := by decide +kernel
theorem d_M_add_0 : decode c_M_add 0 = .ok (.aload_n 0, 1) := by decide +kernel
theorem d_M_add_1 : decode c_M_add 1 = .ok (.iload_n 1, 1) := by decide +kernel
theorem d_M_add_2 : decode c_M_add 2 = .ok (.iload_n 2, 1) := by decide +kernel
theorem d_M_add_3 : decode c_M_add 3 = .ok (.iconst 2, 1) := by decide +kernel
theorem d_M_add_4 : decode c_M_add 4 = .ok (.iload_n 3, 1) := by decide +kernel
theorem d_M_add_5 : decode c_M_add 5 = .ok (.invokevirtual 142, 3) := by decide +kernel
theorem d_M_add_8 : decode c_M_add 8 = .ok (.ireturn, 1) := by decide +kernel
theorem d_M_leave_0 : decode c_M_leave 0 = .ok (.iload_n 1, 1) := by decide +kernel
theorem d_M_leave_1 : decode c_M_leave 1 = .ok (.invokestatic 139, 3) := by decide +kernel
theorem d_M_leave_4 : decode c_M_leave 4 = .ok (.ifCond .eq 10, 3) := by decide +kernel
theorem d_M_leave_7 : decode c_M_leave 7 = .ok (.iload_n 2, 1) := by decide +kernel
theorem d_M_leave_8 : decode c_M_leave 8 = .ok (.invokestatic 139, 3) := by decide +kernel
theorem d_M_leave_11 : decode c_M_leave 11 = .ok (.ifCond .ne 5, 3) := by decide +kernel
theorem d_M_leave_14 : decode c_M_leave 14 = .ok (.iconst (-1), 1) := by decide +kernel
theorem d_M_leave_15 : decode c_M_leave 15 = .ok (.ireturn, 1) := by decide +kernel
theorem d_M_leave_16 : decode c_M_leave 16 = .ok (.iconst 4, 1) := by decide +kernel
theorem d_M_leave_17 : decode c_M_leave 17 = .ok (.iload_n 1, 1) := by decide +kernel
theorem d_M_leave_18 : decode c_M_leave 18 = .ok (.imul, 1) := by decide +kernel
theorem d_M_leave_19 : decode c_M_leave 19 = .ok (.iload_n 2, 1) := by decide +kernel
theorem d_M_leave_20 : decode c_M_leave 20 = .ok (.iadd, 1) := by decide +kernel
theorem d_M_leave_21 : decode c_M_leave 21 = .ok (.istore_n 3, 1) := by decide +kernel
theorem d_M_leave_22 : decode c_M_leave 22 = .ok (.aload_n 0, 1) := by decide +kernel
theorem d_M_leave_23 : decode c_M_leave 23 = .ok (.getfield 7, 3) := by decide +kernel
theorem d_M_leave_26 : decode c_M_leave 26 = .ok (.iload_n 3, 1) := by decide +kernel
theorem d_M_leave_27 : decode c_M_leave 27 = .ok (.iaload, 1) := by decide +kernel
theorem d_M_leave_28 : decode c_M_leave 28 = .ok (.istore 4, 2) := by decide +kernel
theorem d_M_leave_30 : decode c_M_leave 30 = .ok (.iload 4, 2) := by decide +kernel
theorem d_M_leave_32 : decode c_M_leave 32 = .ok (.iconst 3, 1) := by decide +kernel
theorem d_M_leave_33 : decode c_M_leave 33 = .ok (.if_icmp .le 6, 3) := by decide +kernel
theorem d_M_leave_36 : decode c_M_leave 36 = .ok (.bipush (-2), 2) := by decide +kernel
theorem d_M_leave_38 : decode c_M_leave 38 = .ok (.ireturn, 1) := by decide +kernel
theorem d_M_leave_39 : decode c_M_leave 39 = .ok (.iload 4, 2) := by decide +kernel
theorem d_M_leave_41 : decode c_M_leave 41 = .ok (.ifCond .ne 5, 3) := by decide +kernel
theorem d_M_leave_44 : decode c_M_leave 44 = .ok (.iconst 0, 1) := by decide +kernel
theorem d_M_leave_45 : decode c_M_leave 45 = .ok (.ireturn, 1) := by decide +kernel
theorem d_M_leave_46 : decode c_M_leave 46 = .ok (.aload_n 0, 1) := by decide +kernel
theorem d_M_leave_47 : decode c_M_leave 47 = .ok (.getfield 7, 3) := by decide +kernel
theorem d_M_leave_50 : decode c_M_leave 50 = .ok (.iload_n 3, 1) := by decide +kernel
theorem d_M_leave_51 : decode c_M_leave 51 = .ok (.bipush 12, 2) := by decide +kernel
theorem d_M_leave_53 : decode c_M_leave 53 = .ok (.iload 4, 2) := by decide +kernel
theorem d_M_leave_55 : decode c_M_leave 55 = .ok (.isub, 1) := by decide +kernel
theorem d_M_leave_56 : decode c_M_leave 56 = .ok (.iastore, 1) := by decide +kernel
theorem d_M_leave_57 : decode c_M_leave 57 = .ok (.aload_n 0, 1) := by decide +kernel
theorem d_M_leave_58 : decode c_M_leave 58 = .ok (.iload 4, 2) := by decide +kernel
theorem d_M_leave_60 : decode c_M_leave 60 = .ok (.iconst 1, 1) := by decide +kernel
theorem d_M_leave_61 : decode c_M_leave 61 = .ok (.iadd, 1) := by decide +kernel
theorem d_M_leave_62 : decode c_M_leave 62 = .ok (.iload_n 2, 1) := by decide +kernel
theorem d_M_leave_63 : decode c_M_leave 63 = .ok (.iload_n 1, 1) := by decide +kernel
theorem d_M_leave_64 : decode c_M_leave 64 = .ok (.iconst 4, 1) := by decide +kernel
theorem d_M_leave_65 : decode c_M_leave 65 = .ok (.iload_n 1, 1) := by decide +kernel
theorem d_M_leave_66 : decode c_M_leave 66 = .ok (.iconst 0, 1) := by decide +kernel
theorem d_M_leave_67 : decode c_M_leave 67 = .ok (.iload 4, 2) := by decide +kernel
theorem d_M_leave_69 : decode c_M_leave 69 = .ok (.iconst 3, 1) := by decide +kernel
theorem d_M_leave_70 : decode c_M_leave 70 = .ok (.if_icmp .ne 12, 3) := by decide +kernel
theorem d_M_leave_73 : decode c_M_leave 73 = .ok (.aload_n 0, 1) := by decide +kernel
theorem d_M_leave_74 : decode c_M_leave 74 = .ok (.getfield 13, 3) := by decide +kernel
theorem d_M_leave_77 : decode c_M_leave 77 = .ok (.iload_n 3, 1) := by decide +kernel
theorem d_M_leave_78 : decode c_M_leave 78 = .ok (.iaload, 1) := by decide +kernel
theorem d_M_leave_79 : decode c_M_leave 79 = .ok (.goto 4, 3) := by decide +kernel
theorem d_M_leave_82 : decode c_M_leave 82 = .ok (.iconst 0, 1) := by decide +kernel
theorem d_M_leave_83 : decode c_M_leave 83 = .ok (.invokevirtual 77, 3) := by decide +kernel
theorem d_M_leave_86 : decode c_M_leave 86 = .ok (.iconst 1, 1) := by decide +kernel
theorem d_M_leave_87 : decode c_M_leave 87 = .ok (.ireturn, 1) := by decide +kernel
theorem d_M_deliver_0 : decode c_M_deliver 0 = .ok (.iload_n 1, 1) := by decide +kernel
theorem d_M_deliver_1 : decode c_M_deliver 1 = .ok (.ifCond .lt 11, 3) := by decide +kernel
theorem d_M_deliver_4 : decode c_M_deliver 4 = .ok (.iload_n 1, 1) := by decide +kernel
theorem d_M_deliver_5 : decode c_M_deliver 5 = .ok (.aload_n 0, 1) := by decide +kernel
theorem d_M_deliver_6 : decode c_M_deliver 6 = .ok (.getfield 81, 3) := by decide +kernel
theorem d_M_deliver_9 : decode c_M_deliver 9 = .ok (.if_icmp .lt 7, 3) := by decide +kernel
theorem d_M_deliver_12 : decode c_M_deliver 12 = .ok (.iconst (-1), 1) := by decide +kernel
theorem d_M_deliver_13 : decode c_M_deliver 13 = .ok (.goto 8, 3) := by decide +kernel
theorem d_M_deliver_16 : decode c_M_deliver 16 = .ok (.aload_n 0, 1) := by decide +kernel
theorem d_M_deliver_17 : decode c_M_deliver 17 = .ok (.iload_n 1, 1) := by decide +kernel
theorem d_M_deliver_18 : decode c_M_deliver 18 = .ok (.invokevirtual 146, 3) := by decide +kernel
theorem d_M_deliver_21 : decode c_M_deliver 21 = .ok (.ireturn, 1) := by decide +kernel
theorem d_M_message_0 : decode c_M_message 0 = .ok (.iload_n 1, 1) := by decide +kernel
theorem d_M_message_1 : decode c_M_message 1 = .ok (.iconst (-1), 1) := by decide +kernel
theorem d_M_message_2 : decode c_M_message 2 = .ok (.if_icmp .ne 8, 3) := by decide +kernel
theorem d_M_message_5 : decode c_M_message 5 = .ok (.aload_n 0, 1) := by decide +kernel
theorem d_M_message_6 : decode c_M_message 6 = .ok (.getfield 81, 3) := by decide +kernel
theorem d_M_message_9 : decode c_M_message 9 = .ok (.ireturn, 1) := by decide +kernel
theorem d_M_message_10 : decode c_M_message 10 = .ok (.iload_n 1, 1) := by decide +kernel
theorem d_M_message_11 : decode c_M_message 11 = .ok (.ifCond .lt 11, 3) := by decide +kernel
theorem d_M_message_14 : decode c_M_message 14 = .ok (.iload_n 1, 1) := by decide +kernel
theorem d_M_message_15 : decode c_M_message 15 = .ok (.aload_n 0, 1) := by decide +kernel
theorem d_M_message_16 : decode c_M_message 16 = .ok (.getfield 81, 3) := by decide +kernel
theorem d_M_message_19 : decode c_M_message 19 = .ok (.if_icmp .lt 5, 3) := by decide +kernel
theorem d_M_message_22 : decode c_M_message 22 = .ok (.iconst (-1), 1) := by decide +kernel
theorem d_M_message_23 : decode c_M_message 23 = .ok (.ireturn, 1) := by decide +kernel
theorem d_M_message_24 : decode c_M_message 24 = .ok (.iload_n 2, 1) := by decide +kernel
theorem d_M_message_25 : decode c_M_message 25 = .ok (.tableswitch 81 0 5 #[39, 46, 53, 60, 67, 74], 39) := by decide +kernel
theorem d_M_message_64 : decode c_M_message 64 = .ok (.aload_n 0, 1) := by decide +kernel
theorem d_M_message_65 : decode c_M_message 65 = .ok (.getfield 56, 3) := by decide +kernel
theorem d_M_message_68 : decode c_M_message 68 = .ok (.iload_n 1, 1) := by decide +kernel
theorem d_M_message_69 : decode c_M_message 69 = .ok (.iaload, 1) := by decide +kernel
theorem d_M_message_70 : decode c_M_message 70 = .ok (.ireturn, 1) := by decide +kernel
theorem d_M_message_71 : decode c_M_message 71 = .ok (.aload_n 0, 1) := by decide +kernel
theorem d_M_message_72 : decode c_M_message 72 = .ok (.getfield 59, 3) := by decide +kernel
theorem d_M_message_75 : decode c_M_message 75 = .ok (.iload_n 1, 1) := by decide +kernel
theorem d_M_message_76 : decode c_M_message 76 = .ok (.iaload, 1) := by decide +kernel
theorem d_M_message_77 : decode c_M_message 77 = .ok (.ireturn, 1) := by decide +kernel
theorem d_M_message_78 : decode c_M_message 78 = .ok (.aload_n 0, 1) := by decide +kernel
theorem d_M_message_79 : decode c_M_message 79 = .ok (.getfield 62, 3) := by decide +kernel
theorem d_M_message_82 : decode c_M_message 82 = .ok (.iload_n 1, 1) := by decide +kernel
theorem d_M_message_83 : decode c_M_message 83 = .ok (.iaload, 1) := by decide +kernel
theorem d_M_message_84 : decode c_M_message 84 = .ok (.ireturn, 1) := by decide +kernel
theorem d_M_message_85 : decode c_M_message 85 = .ok (.aload_n 0, 1) := by decide +kernel
theorem d_M_message_86 : decode c_M_message 86 = .ok (.getfield 65, 3) := by decide +kernel
theorem d_M_message_89 : decode c_M_message 89 = .ok (.iload_n 1, 1) := by decide +kernel
theorem d_M_message_90 : decode c_M_message 90 = .ok (.iaload, 1) := by decide +kernel
theorem d_M_message_91 : decode c_M_message 91 = .ok (.ireturn, 1) := by decide +kernel
theorem d_M_message_92 : decode c_M_message 92 = .ok (.aload_n 0, 1) := by decide +kernel
theorem d_M_message_93 : decode c_M_message 93 = .ok (.getfield 68, 3) := by decide +kernel
theorem d_M_message_96 : decode c_M_message 96 = .ok (.iload_n 1, 1) := by decide +kernel
theorem d_M_message_97 : decode c_M_message 97 = .ok (.iaload, 1) := by decide +kernel
theorem d_M_message_98 : decode c_M_message 98 = .ok (.ireturn, 1) := by decide +kernel
theorem d_M_message_99 : decode c_M_message 99 = .ok (.aload_n 0, 1) := by decide +kernel
theorem d_M_message_100 : decode c_M_message 100 = .ok (.getfield 71, 3) := by decide +kernel
theorem d_M_message_103 : decode c_M_message 103 = .ok (.iload_n 1, 1) := by decide +kernel
theorem d_M_message_104 : decode c_M_message 104 = .ok (.iaload, 1) := by decide +kernel
theorem d_M_message_105 : decode c_M_message 105 = .ok (.ireturn, 1) := by decide +kernel
theorem d_M_message_106 : decode c_M_message 106 = .ok (.iconst (-1), 1) := by decide +kernel
theorem d_M_message_107 : decode c_M_message 107 = .ok (.ireturn, 1) := by decide +kernel
theorem d_M_carried_0 : decode c_M_carried 0 = .ok (.iload_n 1, 1) := by decide +kernel
theorem d_M_carried_1 : decode c_M_carried 1 = .ok (.ifCond .lt 11, 3) := by decide +kernel
theorem d_M_carried_4 : decode c_M_carried 4 = .ok (.iload_n 1, 1) := by decide +kernel
theorem d_M_carried_5 : decode c_M_carried 5 = .ok (.aload_n 0, 1) := by decide +kernel
theorem d_M_carried_6 : decode c_M_carried 6 = .ok (.getfield 81, 3) := by decide +kernel
theorem d_M_carried_9 : decode c_M_carried 9 = .ok (.if_icmp .lt 7, 3) := by decide +kernel
theorem d_M_carried_12 : decode c_M_carried 12 = .ok (.iconst 0, 1) := by decide +kernel
theorem d_M_carried_13 : decode c_M_carried 13 = .ok (.goto 9, 3) := by decide +kernel
theorem d_M_carried_16 : decode c_M_carried 16 = .ok (.aload_n 0, 1) := by decide +kernel
theorem d_M_carried_17 : decode c_M_carried 17 = .ok (.getfield 74, 3) := by decide +kernel
theorem d_M_carried_20 : decode c_M_carried 20 = .ok (.iload_n 1, 1) := by decide +kernel
theorem d_M_carried_21 : decode c_M_carried 21 = .ok (.iaload, 1) := by decide +kernel
theorem d_M_carried_22 : decode c_M_carried 22 = .ok (.ireturn, 1) := by decide +kernel
theorem d_M_state_0 : decode c_M_state 0 = .ok (.iload_n 1, 1) := by decide +kernel
theorem d_M_state_1 : decode c_M_state 1 = .ok (.invokestatic 139, 3) := by decide +kernel
theorem d_M_state_4 : decode c_M_state 4 = .ok (.ifCond .eq 23, 3) := by decide +kernel
theorem d_M_state_7 : decode c_M_state 7 = .ok (.iload_n 2, 1) := by decide +kernel
theorem d_M_state_8 : decode c_M_state 8 = .ok (.invokestatic 139, 3) := by decide +kernel
theorem d_M_state_11 : decode c_M_state 11 = .ok (.ifCond .eq 16, 3) := by decide +kernel
theorem d_M_state_14 : decode c_M_state 14 = .ok (.aload_n 0, 1) := by decide +kernel
theorem d_M_state_15 : decode c_M_state 15 = .ok (.getfield 7, 3) := by decide +kernel
theorem d_M_state_18 : decode c_M_state 18 = .ok (.iconst 4, 1) := by decide +kernel
theorem d_M_state_19 : decode c_M_state 19 = .ok (.iload_n 1, 1) := by decide +kernel
theorem d_M_state_20 : decode c_M_state 20 = .ok (.imul, 1) := by decide +kernel
theorem d_M_state_21 : decode c_M_state 21 = .ok (.iload_n 2, 1) := by decide +kernel
theorem d_M_state_22 : decode c_M_state 22 = .ok (.iadd, 1) := by decide +kernel
theorem d_M_state_23 : decode c_M_state 23 = .ok (.iaload, 1) := by decide +kernel
theorem d_M_state_24 : decode c_M_state 24 = .ok (.goto 4, 3) := by decide +kernel
theorem d_M_state_27 : decode c_M_state 27 = .ok (.iconst (-1), 1) := by decide +kernel
theorem d_M_state_28 : decode c_M_state 28 = .ok (.ireturn, 1) := by decide +kernel
theorem d_M_value_0 : decode c_M_value 0 = .ok (.iload_n 1, 1) := by decide +kernel
theorem d_M_value_1 : decode c_M_value 1 = .ok (.invokestatic 139, 3) := by decide +kernel
theorem d_M_value_4 : decode c_M_value 4 = .ok (.ifCond .eq 10, 3) := by decide +kernel
theorem d_M_value_7 : decode c_M_value 7 = .ok (.iload_n 2, 1) := by decide +kernel
theorem d_M_value_8 : decode c_M_value 8 = .ok (.invokestatic 139, 3) := by decide +kernel
theorem d_M_value_11 : decode c_M_value 11 = .ok (.ifCond .ne 5, 3) := by decide +kernel
theorem d_M_value_14 : decode c_M_value 14 = .ok (.iconst 0, 1) := by decide +kernel
theorem d_M_value_15 : decode c_M_value 15 = .ok (.ireturn, 1) := by decide +kernel
theorem d_M_value_16 : decode c_M_value 16 = .ok (.aload_n 0, 1) := by decide +kernel
theorem d_M_value_17 : decode c_M_value 17 = .ok (.getfield 7, 3) := by decide +kernel
theorem d_M_value_20 : decode c_M_value 20 = .ok (.iconst 4, 1) := by decide +kernel
theorem d_M_value_21 : decode c_M_value 21 = .ok (.iload_n 1, 1) := by decide +kernel
theorem d_M_value_22 : decode c_M_value 22 = .ok (.imul, 1) := by decide +kernel
theorem d_M_value_23 : decode c_M_value 23 = .ok (.iload_n 2, 1) := by decide +kernel
theorem d_M_value_24 : decode c_M_value 24 = .ok (.iadd, 1) := by decide +kernel
theorem d_M_value_25 : decode c_M_value 25 = .ok (.iaload, 1) := by decide +kernel
theorem d_M_value_26 : decode c_M_value 26 = .ok (.istore_n 3, 1) := by decide +kernel
theorem d_M_value_27 : decode c_M_value 27 = .ok (.iload_n 3, 1) := by decide +kernel
theorem d_M_value_28 : decode c_M_value 28 = .ok (.ifCond .eq 19, 3) := by decide +kernel
theorem d_M_value_31 : decode c_M_value 31 = .ok (.iload_n 3, 1) := by decide +kernel
theorem d_M_value_32 : decode c_M_value 32 = .ok (.iconst 4, 1) := by decide +kernel
theorem d_M_value_33 : decode c_M_value 33 = .ok (.if_icmp .eq 14, 3) := by decide +kernel
theorem d_M_value_36 : decode c_M_value 36 = .ok (.iload_n 3, 1) := by decide +kernel
theorem d_M_value_37 : decode c_M_value 37 = .ok (.iconst 5, 1) := by decide +kernel
theorem d_M_value_38 : decode c_M_value 38 = .ok (.if_icmp .eq 9, 3) := by decide +kernel
theorem d_M_value_41 : decode c_M_value 41 = .ok (.iload_n 3, 1) := by decide +kernel
theorem d_M_value_42 : decode c_M_value 42 = .ok (.bipush 12, 2) := by decide +kernel
theorem d_M_value_44 : decode c_M_value 44 = .ok (.if_icmp .ne 7, 3) := by decide +kernel
theorem d_M_value_47 : decode c_M_value 47 = .ok (.iconst 0, 1) := by decide +kernel
theorem d_M_value_48 : decode c_M_value 48 = .ok (.goto 13, 3) := by decide +kernel
theorem d_M_value_51 : decode c_M_value 51 = .ok (.aload_n 0, 1) := by decide +kernel
theorem d_M_value_52 : decode c_M_value 52 = .ok (.getfield 13, 3) := by decide +kernel
theorem d_M_value_55 : decode c_M_value 55 = .ok (.iconst 4, 1) := by decide +kernel
theorem d_M_value_56 : decode c_M_value 56 = .ok (.iload_n 1, 1) := by decide +kernel
theorem d_M_value_57 : decode c_M_value 57 = .ok (.imul, 1) := by decide +kernel
theorem d_M_value_58 : decode c_M_value 58 = .ok (.iload_n 2, 1) := by decide +kernel
theorem d_M_value_59 : decode c_M_value 59 = .ok (.iadd, 1) := by decide +kernel
theorem d_M_value_60 : decode c_M_value 60 = .ok (.iaload, 1) := by decide +kernel
theorem d_M_value_61 : decode c_M_value 61 = .ok (.ireturn, 1) := by decide +kernel
theorem d_M_due_0 : decode c_M_due 0 = .ok (.iload_n 1, 1) := by decide +kernel
theorem d_M_due_1 : decode c_M_due 1 = .ok (.invokestatic 139, 3) := by decide +kernel
theorem d_M_due_4 : decode c_M_due 4 = .ok (.ifCond .eq 10, 3) := by decide +kernel
theorem d_M_due_7 : decode c_M_due 7 = .ok (.iload_n 2, 1) := by decide +kernel
theorem d_M_due_8 : decode c_M_due 8 = .ok (.invokestatic 139, 3) := by decide +kernel
theorem d_M_due_11 : decode c_M_due 11 = .ok (.ifCond .ne 5, 3) := by decide +kernel
theorem d_M_due_14 : decode c_M_due 14 = .ok (.iconst (-1), 1) := by decide +kernel
theorem d_M_due_15 : decode c_M_due 15 = .ok (.ireturn, 1) := by decide +kernel
theorem d_M_due_16 : decode c_M_due 16 = .ok (.iconst 4, 1) := by decide +kernel
theorem d_M_due_17 : decode c_M_due 17 = .ok (.iload_n 1, 1) := by decide +kernel
theorem d_M_due_18 : decode c_M_due 18 = .ok (.imul, 1) := by decide +kernel
theorem d_M_due_19 : decode c_M_due 19 = .ok (.iload_n 2, 1) := by decide +kernel
theorem d_M_due_20 : decode c_M_due 20 = .ok (.iadd, 1) := by decide +kernel
theorem d_M_due_21 : decode c_M_due 21 = .ok (.istore_n 3, 1) := by decide +kernel
theorem d_M_due_22 : decode c_M_due 22 = .ok (.aload_n 0, 1) := by decide +kernel
theorem d_M_due_23 : decode c_M_due 23 = .ok (.getfield 7, 3) := by decide +kernel
theorem d_M_due_26 : decode c_M_due 26 = .ok (.iload_n 3, 1) := by decide +kernel
theorem d_M_due_27 : decode c_M_due 27 = .ok (.iaload, 1) := by decide +kernel
theorem d_M_due_28 : decode c_M_due 28 = .ok (.istore 4, 2) := by decide +kernel
theorem d_M_due_30 : decode c_M_due 30 = .ok (.iload 4, 2) := by decide +kernel
theorem d_M_due_32 : decode c_M_due 32 = .ok (.bipush 6, 2) := by decide +kernel
theorem d_M_due_34 : decode c_M_due 34 = .ok (.if_icmp .eq 10, 3) := by decide +kernel
theorem d_M_due_37 : decode c_M_due 37 = .ok (.iload 4, 2) := by decide +kernel
theorem d_M_due_39 : decode c_M_due 39 = .ok (.bipush 8, 2) := by decide +kernel
theorem d_M_due_41 : decode c_M_due 41 = .ok (.if_icmp .ne 19, 3) := by decide +kernel
theorem d_M_due_44 : decode c_M_due 44 = .ok (.aload_n 0, 1) := by decide +kernel
theorem d_M_due_45 : decode c_M_due 45 = .ok (.getfield 16, 3) := by decide +kernel
theorem d_M_due_48 : decode c_M_due 48 = .ok (.iload_n 3, 1) := by decide +kernel
theorem d_M_due_49 : decode c_M_due 49 = .ok (.iaload, 1) := by decide +kernel
theorem d_M_due_50 : decode c_M_due 50 = .ok (.aload_n 0, 1) := by decide +kernel
theorem d_M_due_51 : decode c_M_due 51 = .ok (.getfield 19, 3) := by decide +kernel
theorem d_M_due_54 : decode c_M_due 54 = .ok (.iload_n 3, 1) := by decide +kernel
theorem d_M_due_55 : decode c_M_due 55 = .ok (.iaload, 1) := by decide +kernel
theorem d_M_due_56 : decode c_M_due 56 = .ok (.isub, 1) := by decide +kernel
theorem d_M_due_57 : decode c_M_due 57 = .ok (.goto 27, 3) := by decide +kernel
theorem d_M_due_60 : decode c_M_due 60 = .ok (.iload 4, 2) := by decide +kernel
theorem d_M_due_62 : decode c_M_due 62 = .ok (.iconst 5, 1) := by decide +kernel
theorem d_M_due_63 : decode c_M_due 63 = .ok (.if_icmp .eq 10, 3) := by decide +kernel
theorem d_M_due_66 : decode c_M_due 66 = .ok (.iload 4, 2) := by decide +kernel
theorem d_M_due_68 : decode c_M_due 68 = .ok (.bipush 7, 2) := by decide +kernel
theorem d_M_due_70 : decode c_M_due 70 = .ok (.if_icmp .ne 13, 3) := by decide +kernel
theorem d_M_due_73 : decode c_M_due 73 = .ok (.aload_n 0, 1) := by decide +kernel
theorem d_M_due_74 : decode c_M_due 74 = .ok (.getfield 19, 3) := by decide +kernel
theorem d_M_due_77 : decode c_M_due 77 = .ok (.iload_n 3, 1) := by decide +kernel
theorem d_M_due_78 : decode c_M_due 78 = .ok (.iaload, 1) := by decide +kernel
theorem d_M_due_79 : decode c_M_due 79 = .ok (.ineg, 1) := by decide +kernel
theorem d_M_due_80 : decode c_M_due 80 = .ok (.goto 4, 3) := by decide +kernel
theorem d_M_due_83 : decode c_M_due 83 = .ok (.iconst 0, 1) := by decide +kernel
theorem d_M_due_84 : decode c_M_due 84 = .ok (.ireturn, 1) := by decide +kernel
theorem d_M_home_0 : decode c_M_home 0 = .ok (.iload_n 1, 1) := by decide +kernel
theorem d_M_home_1 : decode c_M_home 1 = .ok (.invokestatic 139, 3) := by decide +kernel
theorem d_M_home_4 : decode c_M_home 4 = .ok (.ifCond .ne 5, 3) := by decide +kernel
theorem d_M_home_7 : decode c_M_home 7 = .ok (.iconst (-1), 1) := by decide +kernel
theorem d_M_home_8 : decode c_M_home 8 = .ok (.ireturn, 1) := by decide +kernel
theorem d_M_home_9 : decode c_M_home 9 = .ok (.aload_n 0, 1) := by decide +kernel
theorem d_M_home_10 : decode c_M_home 10 = .ok (.getfield 44, 3) := by decide +kernel
theorem d_M_home_13 : decode c_M_home 13 = .ok (.iload_n 1, 1) := by decide +kernel
theorem d_M_home_14 : decode c_M_home 14 = .ok (.iaload, 1) := by decide +kernel
theorem d_M_home_15 : decode c_M_home 15 = .ok (.iconst 2, 1) := by decide +kernel
theorem d_M_home_16 : decode c_M_home 16 = .ok (.if_icmp .ne 14, 3) := by decide +kernel
theorem d_M_home_19 : decode c_M_home 19 = .ok (.aload_n 0, 1) := by decide +kernel
theorem d_M_home_20 : decode c_M_home 20 = .ok (.getfield 47, 3) := by decide +kernel
theorem d_M_home_23 : decode c_M_home 23 = .ok (.iload_n 1, 1) := by decide +kernel
theorem d_M_home_24 : decode c_M_home 24 = .ok (.iaload, 1) := by decide +kernel
theorem d_M_home_25 : decode c_M_home 25 = .ok (.iconst 1, 1) := by decide +kernel
theorem d_M_home_26 : decode c_M_home 26 = .ok (.iadd, 1) := by decide +kernel
theorem d_M_home_27 : decode c_M_home 27 = .ok (.goto 4, 3) := by decide +kernel
theorem d_M_home_30 : decode c_M_home 30 = .ok (.iconst 0, 1) := by decide +kernel
theorem d_M_home_31 : decode c_M_home 31 = .ok (.istore_n 2, 1) := by decide +kernel
theorem d_M_home_32 : decode c_M_home 32 = .ok (.aload_n 0, 1) := by decide +kernel
theorem d_M_home_33 : decode c_M_home 33 = .ok (.getfield 44, 3) := by decide +kernel
theorem d_M_home_36 : decode c_M_home 36 = .ok (.iload_n 1, 1) := by decide +kernel
theorem d_M_home_37 : decode c_M_home 37 = .ok (.iaload, 1) := by decide +kernel
theorem d_M_home_38 : decode c_M_home 38 = .ok (.iconst 4, 1) := by decide +kernel
theorem d_M_home_39 : decode c_M_home 39 = .ok (.iload_n 2, 1) := by decide +kernel
theorem d_M_home_40 : decode c_M_home 40 = .ok (.imul, 1) := by decide +kernel
theorem d_M_home_41 : decode c_M_home 41 = .ok (.iadd, 1) := by decide +kernel
theorem d_M_home_42 : decode c_M_home 42 = .ok (.bipush 32, 2) := by decide +kernel
theorem d_M_home_44 : decode c_M_home 44 = .ok (.aload_n 0, 1) := by decide +kernel
theorem d_M_home_45 : decode c_M_home 45 = .ok (.getfield 50, 3) := by decide +kernel
theorem d_M_home_48 : decode c_M_home 48 = .ok (.iload_n 1, 1) := by decide +kernel
theorem d_M_home_49 : decode c_M_home 49 = .ok (.iaload, 1) := by decide +kernel
theorem d_M_home_50 : decode c_M_home 50 = .ok (.imul, 1) := by decide +kernel
theorem d_M_home_51 : decode c_M_home 51 = .ok (.iadd, 1) := by decide +kernel
theorem d_M_home_52 : decode c_M_home 52 = .ok (.ireturn, 1) := by decide +kernel
theorem d_M_memory_0 : decode c_M_memory 0 = .ok (.iload_n 1, 1) := by decide +kernel
theorem d_M_memory_1 : decode c_M_memory 1 = .ok (.invokestatic 139, 3) := by decide +kernel
theorem d_M_memory_4 : decode c_M_memory 4 = .ok (.ifCond .eq 12, 3) := by decide +kernel
theorem d_M_memory_7 : decode c_M_memory 7 = .ok (.aload_n 0, 1) := by decide +kernel
theorem d_M_memory_8 : decode c_M_memory 8 = .ok (.getfield 53, 3) := by decide +kernel
theorem d_M_memory_11 : decode c_M_memory 11 = .ok (.iload_n 1, 1) := by decide +kernel
theorem d_M_memory_12 : decode c_M_memory 12 = .ok (.iaload, 1) := by decide +kernel
theorem d_M_memory_13 : decode c_M_memory 13 = .ok (.goto 4, 3) := by decide +kernel
theorem d_M_memory_16 : decode c_M_memory 16 = .ok (.iconst 0, 1) := by decide +kernel
theorem d_M_memory_17 : decode c_M_memory 17 = .ok (.ireturn, 1) := by decide +kernel
theorem d_M_waits_0 : decode c_M_waits 0 = .ok (.iload_n 1, 1) := by decide +kernel
theorem d_M_waits_1 : decode c_M_waits 1 = .ok (.invokestatic 139, 3) := by decide +kernel
theorem d_M_waits_4 : decode c_M_waits 4 = .ok (.ifCond .eq 16, 3) := by decide +kernel
theorem d_M_waits_7 : decode c_M_waits 7 = .ok (.aload_n 0, 1) := by decide +kernel
theorem d_M_waits_8 : decode c_M_waits 8 = .ok (.getfield 25, 3) := by decide +kernel
theorem d_M_waits_11 : decode c_M_waits 11 = .ok (.iload_n 1, 1) := by decide +kernel
theorem d_M_waits_12 : decode c_M_waits 12 = .ok (.baload, 1) := by decide +kernel
theorem d_M_waits_13 : decode c_M_waits 13 = .ok (.ifCond .eq 7, 3) := by decide +kernel
theorem d_M_waits_16 : decode c_M_waits 16 = .ok (.iconst 1, 1) := by decide +kernel
theorem d_M_waits_17 : decode c_M_waits 17 = .ok (.goto 4, 3) := by decide +kernel
theorem d_M_waits_20 : decode c_M_waits 20 = .ok (.iconst 0, 1) := by decide +kernel
theorem d_M_waits_21 : decode c_M_waits 21 = .ok (.ireturn, 1) := by decide +kernel
theorem d_M_done_0 : decode c_M_done 0 = .ok (.iload_n 1, 1) := by decide +kernel
theorem d_M_done_1 : decode c_M_done 1 = .ok (.invokestatic 139, 3) := by decide +kernel
theorem d_M_done_4 : decode c_M_done 4 = .ok (.ifCond .eq 12, 3) := by decide +kernel
theorem d_M_done_7 : decode c_M_done 7 = .ok (.aload_n 0, 1) := by decide +kernel
theorem d_M_done_8 : decode c_M_done 8 = .ok (.getfield 38, 3) := by decide +kernel
theorem d_M_done_11 : decode c_M_done 11 = .ok (.iload_n 1, 1) := by decide +kernel
theorem d_M_done_12 : decode c_M_done 12 = .ok (.iaload, 1) := by decide +kernel
theorem d_M_done_13 : decode c_M_done 13 = .ok (.goto 4, 3) := by decide +kernel
theorem d_M_done_16 : decode c_M_done 16 = .ok (.iconst (-1), 1) := by decide +kernel
theorem d_M_done_17 : decode c_M_done 17 = .ok (.ireturn, 1) := by decide +kernel
theorem d_M_result_0 : decode c_M_result 0 = .ok (.iload_n 1, 1) := by decide +kernel
theorem d_M_result_1 : decode c_M_result 1 = .ok (.invokestatic 139, 3) := by decide +kernel
theorem d_M_result_4 : decode c_M_result 4 = .ok (.ifCond .eq 12, 3) := by decide +kernel
theorem d_M_result_7 : decode c_M_result 7 = .ok (.aload_n 0, 1) := by decide +kernel
theorem d_M_result_8 : decode c_M_result 8 = .ok (.getfield 41, 3) := by decide +kernel
theorem d_M_result_11 : decode c_M_result 11 = .ok (.iload_n 1, 1) := by decide +kernel
theorem d_M_result_12 : decode c_M_result 12 = .ok (.iaload, 1) := by decide +kernel
theorem d_M_result_13 : decode c_M_result 13 = .ok (.goto 4, 3) := by decide +kernel
theorem d_M_result_16 : decode c_M_result 16 = .ok (.iconst 0, 1) := by decide +kernel
theorem d_M_result_17 : decode c_M_result 17 = .ok (.ireturn, 1) := by decide +kernel
theorem d_M_tally_0 : decode c_M_tally 0 = .ok (.iload_n 1, 1) := by decide +kernel
theorem d_M_tally_1 : decode c_M_tally 1 = .ok (.invokestatic 139, 3) := by decide +kernel
theorem d_M_tally_4 : decode c_M_tally 4 = .ok (.ifCond .eq 23, 3) := by decide +kernel
theorem d_M_tally_7 : decode c_M_tally 7 = .ok (.iload_n 2, 1) := by decide +kernel
theorem d_M_tally_8 : decode c_M_tally 8 = .ok (.invokestatic 139, 3) := by decide +kernel
theorem d_M_tally_11 : decode c_M_tally 11 = .ok (.ifCond .eq 16, 3) := by decide +kernel
theorem d_M_tally_14 : decode c_M_tally 14 = .ok (.aload_n 0, 1) := by decide +kernel
theorem d_M_tally_15 : decode c_M_tally 15 = .ok (.getfield 22, 3) := by decide +kernel
theorem d_M_tally_18 : decode c_M_tally 18 = .ok (.iconst 4, 1) := by decide +kernel
theorem d_M_tally_19 : decode c_M_tally 19 = .ok (.iload_n 1, 1) := by decide +kernel
theorem d_M_tally_20 : decode c_M_tally 20 = .ok (.imul, 1) := by decide +kernel
theorem d_M_tally_21 : decode c_M_tally 21 = .ok (.iload_n 2, 1) := by decide +kernel
theorem d_M_tally_22 : decode c_M_tally 22 = .ok (.iadd, 1) := by decide +kernel
theorem d_M_tally_23 : decode c_M_tally 23 = .ok (.iaload, 1) := by decide +kernel
theorem d_M_tally_24 : decode c_M_tally 24 = .ok (.goto 4, 3) := by decide +kernel
theorem d_M_tally_27 : decode c_M_tally 27 = .ok (.iconst (-1), 1) := by decide +kernel
theorem d_M_tally_28 : decode c_M_tally 28 = .ok (.ireturn, 1) := by decide +kernel
theorem d_M_run_0 : decode c_M_run 0 = .ok (.iload_n 1, 1) := by decide +kernel
theorem d_M_run_1 : decode c_M_run 1 = .ok (.iconst 1, 1) := by decide +kernel
theorem d_M_run_2 : decode c_M_run 2 = .ok (.if_icmp .lt 9, 3) := by decide +kernel
theorem d_M_run_5 : decode c_M_run 5 = .ok (.iload_n 1, 1) := by decide +kernel
theorem d_M_run_6 : decode c_M_run 6 = .ok (.bipush 64, 2) := by decide +kernel
theorem d_M_run_8 : decode c_M_run 8 = .ok (.if_icmp .le 7, 3) := by decide +kernel
theorem d_M_run_11 : decode c_M_run 11 = .ok (.iconst 0, 1) := by decide +kernel
theorem d_M_run_12 : decode c_M_run 12 = .ok (.goto 4, 3) := by decide +kernel
theorem d_M_run_15 : decode c_M_run 15 = .ok (.iload_n 1, 1) := by decide +kernel
theorem d_M_run_16 : decode c_M_run 16 = .ok (.istore_n 2, 1) := by decide +kernel
theorem d_M_run_17 : decode c_M_run 17 = .ok (.iconst 0, 1) := by decide +kernel
theorem d_M_run_18 : decode c_M_run 18 = .ok (.istore_n 3, 1) := by decide +kernel
theorem d_M_run_19 : decode c_M_run 19 = .ok (.iconst 1, 1) := by decide +kernel
theorem d_M_run_20 : decode c_M_run 20 = .ok (.istore 4, 2) := by decide +kernel
theorem d_M_run_22 : decode c_M_run 22 = .ok (.iload_n 3, 1) := by decide +kernel
theorem d_M_run_23 : decode c_M_run 23 = .ok (.iload_n 2, 1) := by decide +kernel
theorem d_M_run_24 : decode c_M_run 24 = .ok (.if_icmp .ge 62, 3) := by decide +kernel
theorem d_M_run_27 : decode c_M_run 27 = .ok (.iload 4, 2) := by decide +kernel
theorem d_M_run_29 : decode c_M_run 29 = .ok (.ifCond .eq 57, 3) := by decide +kernel
theorem d_M_run_32 : decode c_M_run 32 = .ok (.iconst 0, 1) := by decide +kernel
theorem d_M_run_33 : decode c_M_run 33 = .ok (.istore 4, 2) := by decide +kernel
theorem d_M_run_35 : decode c_M_run 35 = .ok (.iconst 0, 1) := by decide +kernel
theorem d_M_run_36 : decode c_M_run 36 = .ok (.istore 5, 2) := by decide +kernel
theorem d_M_run_38 : decode c_M_run 38 = .ok (.iload 5, 2) := by decide +kernel
theorem d_M_run_40 : decode c_M_run 40 = .ok (.aload_n 0, 1) := by decide +kernel
theorem d_M_run_41 : decode c_M_run 41 = .ok (.getfield 81, 3) := by decide +kernel
theorem d_M_run_44 : decode c_M_run 44 = .ok (.if_icmp .ge 31, 3) := by decide +kernel
theorem d_M_run_47 : decode c_M_run 47 = .ok (.iload 4, 2) := by decide +kernel
theorem d_M_run_49 : decode c_M_run 49 = .ok (.ifCond .ne 26, 3) := by decide +kernel
theorem d_M_run_52 : decode c_M_run 52 = .ok (.aload_n 0, 1) := by decide +kernel
theorem d_M_run_53 : decode c_M_run 53 = .ok (.iload 5, 2) := by decide +kernel
theorem d_M_run_55 : decode c_M_run 55 = .ok (.invokevirtual 146, 3) := by decide +kernel
theorem d_M_run_58 : decode c_M_run 58 = .ok (.iconst 2, 1) := by decide +kernel
theorem d_M_run_59 : decode c_M_run 59 = .ok (.if_icmp .ne 7, 3) := by decide +kernel
theorem d_M_run_62 : decode c_M_run 62 = .ok (.iconst 1, 1) := by decide +kernel
theorem d_M_run_63 : decode c_M_run 63 = .ok (.goto 4, 3) := by decide +kernel
theorem d_M_run_66 : decode c_M_run 66 = .ok (.iconst 0, 1) := by decide +kernel
theorem d_M_run_67 : decode c_M_run 67 = .ok (.istore 4, 2) := by decide +kernel
theorem d_M_run_69 : decode c_M_run 69 = .ok (.iinc 5 1, 3) := by decide +kernel
theorem d_M_run_72 : decode c_M_run 72 = .ok (.goto (-34), 3) := by decide +kernel
theorem d_M_run_75 : decode c_M_run 75 = .ok (.iload 4, 2) := by decide +kernel
theorem d_M_run_77 : decode c_M_run 77 = .ok (.ifCond .eq (-55), 3) := by decide +kernel
theorem d_M_run_80 : decode c_M_run 80 = .ok (.iinc 3 1, 3) := by decide +kernel
theorem d_M_run_83 : decode c_M_run 83 = .ok (.goto (-61), 3) := by decide +kernel
theorem d_M_run_86 : decode c_M_run 86 = .ok (.iload_n 3, 1) := by decide +kernel
theorem d_M_run_87 : decode c_M_run 87 = .ok (.ireturn, 1) := by decide +kernel
end
section
theorem d_L_law_0 : decode code 0 = .ok (.new 7, 3) := by decide +kernel
theorem d_L_law_3 : decode code 3 = .ok (.dup, 1) := by decide +kernel
theorem d_L_law_4 : decode code 4 = .ok (.invokespecial 9, 3) := by decide +kernel
theorem d_L_law_7 : decode code 7 = .ok (.astore_n 1, 1) := by decide +kernel
theorem d_L_law_8 : decode code 8 = .ok (.new 10, 3) := by decide +kernel
theorem d_L_law_11 : decode code 11 = .ok (.dup, 1) := by decide +kernel
theorem d_L_law_12 : decode code 12 = .ok (.invokespecial 12, 3) := by decide +kernel
theorem d_L_law_15 : decode code 15 = .ok (.astore_n 2, 1) := by decide +kernel
theorem d_L_law_16 : decode code 16 = .ok (.iconst 0, 1) := by decide +kernel
theorem d_L_law_17 : decode code 17 = .ok (.istore_n 3, 1) := by decide +kernel
theorem d_L_law_18 : decode code 18 = .ok (.iload_n 3, 1) := by decide +kernel
theorem d_L_law_19 : decode code 19 = .ok (.aload_n 0, 1) := by decide +kernel
theorem d_L_law_20 : decode code 20 = .ok (.arraylength, 1) := by decide +kernel
theorem d_L_law_21 : decode code 21 = .ok (.iconst 4, 1) := by decide +kernel
theorem d_L_law_22 : decode code 22 = .ok (.isub, 1) := by decide +kernel
theorem d_L_law_23 : decode code 23 = .ok (.if_icmp .gt 600, 3) := by decide +kernel
theorem d_L_law_26 : decode code 26 = .ok (.aload_n 0, 1) := by decide +kernel
theorem d_L_law_27 : decode code 27 = .ok (.iload_n 3, 1) := by decide +kernel
theorem d_L_law_28 : decode code 28 = .ok (.iaload, 1) := by decide +kernel
theorem d_L_law_29 : decode code 29 = .ok (.bipush 31, 2) := by decide +kernel
theorem d_L_law_31 : decode code 31 = .ok (.iand, 1) := by decide +kernel
theorem d_L_law_32 : decode code 32 = .ok (.tableswitch 585 0 16 #[84, 117, 160, 203, 236, 259, 292, 315, 348, 381, 414, 437, 460, 483, 506, 529, 562], 84) := by decide +kernel
theorem d_L_law_116 : decode code 116 = .ok (.aload_n 1, 1) := by decide +kernel
theorem d_L_law_117 : decode code 117 = .ok (.aload_n 0, 1) := by decide +kernel
theorem d_L_law_118 : decode code 118 = .ok (.iload_n 3, 1) := by decide +kernel
theorem d_L_law_119 : decode code 119 = .ok (.iconst 1, 1) := by decide +kernel
theorem d_L_law_120 : decode code 120 = .ok (.iadd, 1) := by decide +kernel
theorem d_L_law_121 : decode code 121 = .ok (.iaload, 1) := by decide +kernel
theorem d_L_law_122 : decode code 122 = .ok (.aload_n 0, 1) := by decide +kernel
theorem d_L_law_123 : decode code 123 = .ok (.iload_n 3, 1) := by decide +kernel
theorem d_L_law_124 : decode code 124 = .ok (.iconst 2, 1) := by decide +kernel
theorem d_L_law_125 : decode code 125 = .ok (.iadd, 1) := by decide +kernel
theorem d_L_law_126 : decode code 126 = .ok (.iaload, 1) := by decide +kernel
theorem d_L_law_127 : decode code 127 = .ok (.invokevirtual 13, 3) := by decide +kernel
theorem d_L_law_130 : decode code 130 = .ok (.aload_n 2, 1) := by decide +kernel
theorem d_L_law_131 : decode code 131 = .ok (.aload_n 0, 1) := by decide +kernel
theorem d_L_law_132 : decode code 132 = .ok (.iload_n 3, 1) := by decide +kernel
theorem d_L_law_133 : decode code 133 = .ok (.iconst 1, 1) := by decide +kernel
theorem d_L_law_134 : decode code 134 = .ok (.iadd, 1) := by decide +kernel
theorem d_L_law_135 : decode code 135 = .ok (.iaload, 1) := by decide +kernel
theorem d_L_law_136 : decode code 136 = .ok (.aload_n 0, 1) := by decide +kernel
theorem d_L_law_137 : decode code 137 = .ok (.iload_n 3, 1) := by decide +kernel
theorem d_L_law_138 : decode code 138 = .ok (.iconst 2, 1) := by decide +kernel
theorem d_L_law_139 : decode code 139 = .ok (.iadd, 1) := by decide +kernel
theorem d_L_law_140 : decode code 140 = .ok (.iaload, 1) := by decide +kernel
theorem d_L_law_141 : decode code 141 = .ok (.invokevirtual 17, 3) := by decide +kernel
theorem d_L_law_144 : decode code 144 = .ok (.if_icmp .eq 473, 3) := by decide +kernel
theorem d_L_law_147 : decode code 147 = .ok (.iconst 0, 1) := by decide +kernel
theorem d_L_law_148 : decode code 148 = .ok (.ireturn, 1) := by decide +kernel
theorem d_L_law_149 : decode code 149 = .ok (.aload_n 1, 1) := by decide +kernel
theorem d_L_law_150 : decode code 150 = .ok (.aload_n 0, 1) := by decide +kernel
theorem d_L_law_151 : decode code 151 = .ok (.iload_n 3, 1) := by decide +kernel
theorem d_L_law_152 : decode code 152 = .ok (.iconst 1, 1) := by decide +kernel
theorem d_L_law_153 : decode code 153 = .ok (.iadd, 1) := by decide +kernel
theorem d_L_law_154 : decode code 154 = .ok (.iaload, 1) := by decide +kernel
theorem d_L_law_155 : decode code 155 = .ok (.aload_n 0, 1) := by decide +kernel
theorem d_L_law_156 : decode code 156 = .ok (.iload_n 3, 1) := by decide +kernel
theorem d_L_law_157 : decode code 157 = .ok (.iconst 2, 1) := by decide +kernel
theorem d_L_law_158 : decode code 158 = .ok (.iadd, 1) := by decide +kernel
theorem d_L_law_159 : decode code 159 = .ok (.iaload, 1) := by decide +kernel
theorem d_L_law_160 : decode code 160 = .ok (.aload_n 0, 1) := by decide +kernel
theorem d_L_law_161 : decode code 161 = .ok (.iload_n 3, 1) := by decide +kernel
theorem d_L_law_162 : decode code 162 = .ok (.iconst 3, 1) := by decide +kernel
theorem d_L_law_163 : decode code 163 = .ok (.iadd, 1) := by decide +kernel
theorem d_L_law_164 : decode code 164 = .ok (.iaload, 1) := by decide +kernel
theorem d_L_law_165 : decode code 165 = .ok (.invokevirtual 18, 3) := by decide +kernel
theorem d_L_law_168 : decode code 168 = .ok (.aload_n 2, 1) := by decide +kernel
theorem d_L_law_169 : decode code 169 = .ok (.aload_n 0, 1) := by decide +kernel
theorem d_L_law_170 : decode code 170 = .ok (.iload_n 3, 1) := by decide +kernel
theorem d_L_law_171 : decode code 171 = .ok (.iconst 1, 1) := by decide +kernel
theorem d_L_law_172 : decode code 172 = .ok (.iadd, 1) := by decide +kernel
theorem d_L_law_173 : decode code 173 = .ok (.iaload, 1) := by decide +kernel
theorem d_L_law_174 : decode code 174 = .ok (.aload_n 0, 1) := by decide +kernel
theorem d_L_law_175 : decode code 175 = .ok (.iload_n 3, 1) := by decide +kernel
theorem d_L_law_176 : decode code 176 = .ok (.iconst 2, 1) := by decide +kernel
theorem d_L_law_177 : decode code 177 = .ok (.iadd, 1) := by decide +kernel
theorem d_L_law_178 : decode code 178 = .ok (.iaload, 1) := by decide +kernel
theorem d_L_law_179 : decode code 179 = .ok (.aload_n 0, 1) := by decide +kernel
theorem d_L_law_180 : decode code 180 = .ok (.iload_n 3, 1) := by decide +kernel
theorem d_L_law_181 : decode code 181 = .ok (.iconst 3, 1) := by decide +kernel
theorem d_L_law_182 : decode code 182 = .ok (.iadd, 1) := by decide +kernel
theorem d_L_law_183 : decode code 183 = .ok (.iaload, 1) := by decide +kernel
theorem d_L_law_184 : decode code 184 = .ok (.invokevirtual 22, 3) := by decide +kernel
theorem d_L_law_187 : decode code 187 = .ok (.if_icmp .eq 430, 3) := by decide +kernel
theorem d_L_law_190 : decode code 190 = .ok (.iconst 0, 1) := by decide +kernel
theorem d_L_law_191 : decode code 191 = .ok (.ireturn, 1) := by decide +kernel
theorem d_L_law_192 : decode code 192 = .ok (.aload_n 1, 1) := by decide +kernel
theorem d_L_law_193 : decode code 193 = .ok (.aload_n 0, 1) := by decide +kernel
theorem d_L_law_194 : decode code 194 = .ok (.iload_n 3, 1) := by decide +kernel
theorem d_L_law_195 : decode code 195 = .ok (.iconst 1, 1) := by decide +kernel
theorem d_L_law_196 : decode code 196 = .ok (.iadd, 1) := by decide +kernel
theorem d_L_law_197 : decode code 197 = .ok (.iaload, 1) := by decide +kernel
theorem d_L_law_198 : decode code 198 = .ok (.aload_n 0, 1) := by decide +kernel
theorem d_L_law_199 : decode code 199 = .ok (.iload_n 3, 1) := by decide +kernel
theorem d_L_law_200 : decode code 200 = .ok (.iconst 2, 1) := by decide +kernel
theorem d_L_law_201 : decode code 201 = .ok (.iadd, 1) := by decide +kernel
theorem d_L_law_202 : decode code 202 = .ok (.iaload, 1) := by decide +kernel
theorem d_L_law_203 : decode code 203 = .ok (.aload_n 0, 1) := by decide +kernel
theorem d_L_law_204 : decode code 204 = .ok (.iload_n 3, 1) := by decide +kernel
theorem d_L_law_205 : decode code 205 = .ok (.iconst 3, 1) := by decide +kernel
theorem d_L_law_206 : decode code 206 = .ok (.iadd, 1) := by decide +kernel
theorem d_L_law_207 : decode code 207 = .ok (.iaload, 1) := by decide +kernel
theorem d_L_law_208 : decode code 208 = .ok (.invokevirtual 23, 3) := by decide +kernel
theorem d_L_law_211 : decode code 211 = .ok (.aload_n 2, 1) := by decide +kernel
theorem d_L_law_212 : decode code 212 = .ok (.aload_n 0, 1) := by decide +kernel
theorem d_L_law_213 : decode code 213 = .ok (.iload_n 3, 1) := by decide +kernel
theorem d_L_law_214 : decode code 214 = .ok (.iconst 1, 1) := by decide +kernel
theorem d_L_law_215 : decode code 215 = .ok (.iadd, 1) := by decide +kernel
theorem d_L_law_216 : decode code 216 = .ok (.iaload, 1) := by decide +kernel
theorem d_L_law_217 : decode code 217 = .ok (.aload_n 0, 1) := by decide +kernel
theorem d_L_law_218 : decode code 218 = .ok (.iload_n 3, 1) := by decide +kernel
theorem d_L_law_219 : decode code 219 = .ok (.iconst 2, 1) := by decide +kernel
theorem d_L_law_220 : decode code 220 = .ok (.iadd, 1) := by decide +kernel
theorem d_L_law_221 : decode code 221 = .ok (.iaload, 1) := by decide +kernel
theorem d_L_law_222 : decode code 222 = .ok (.aload_n 0, 1) := by decide +kernel
theorem d_L_law_223 : decode code 223 = .ok (.iload_n 3, 1) := by decide +kernel
theorem d_L_law_224 : decode code 224 = .ok (.iconst 3, 1) := by decide +kernel
theorem d_L_law_225 : decode code 225 = .ok (.iadd, 1) := by decide +kernel
theorem d_L_law_226 : decode code 226 = .ok (.iaload, 1) := by decide +kernel
theorem d_L_law_227 : decode code 227 = .ok (.invokevirtual 26, 3) := by decide +kernel
theorem d_L_law_230 : decode code 230 = .ok (.if_icmp .eq 387, 3) := by decide +kernel
theorem d_L_law_233 : decode code 233 = .ok (.iconst 0, 1) := by decide +kernel
theorem d_L_law_234 : decode code 234 = .ok (.ireturn, 1) := by decide +kernel
theorem d_L_law_235 : decode code 235 = .ok (.aload_n 1, 1) := by decide +kernel
theorem d_L_law_236 : decode code 236 = .ok (.aload_n 0, 1) := by decide +kernel
theorem d_L_law_237 : decode code 237 = .ok (.iload_n 3, 1) := by decide +kernel
theorem d_L_law_238 : decode code 238 = .ok (.iconst 1, 1) := by decide +kernel
theorem d_L_law_239 : decode code 239 = .ok (.iadd, 1) := by decide +kernel
theorem d_L_law_240 : decode code 240 = .ok (.iaload, 1) := by decide +kernel
theorem d_L_law_241 : decode code 241 = .ok (.aload_n 0, 1) := by decide +kernel
theorem d_L_law_242 : decode code 242 = .ok (.iload_n 3, 1) := by decide +kernel
theorem d_L_law_243 : decode code 243 = .ok (.iconst 2, 1) := by decide +kernel
theorem d_L_law_244 : decode code 244 = .ok (.iadd, 1) := by decide +kernel
theorem d_L_law_245 : decode code 245 = .ok (.iaload, 1) := by decide +kernel
theorem d_L_law_246 : decode code 246 = .ok (.invokevirtual 27, 3) := by decide +kernel
theorem d_L_law_249 : decode code 249 = .ok (.aload_n 2, 1) := by decide +kernel
theorem d_L_law_250 : decode code 250 = .ok (.aload_n 0, 1) := by decide +kernel
theorem d_L_law_251 : decode code 251 = .ok (.iload_n 3, 1) := by decide +kernel
theorem d_L_law_252 : decode code 252 = .ok (.iconst 1, 1) := by decide +kernel
theorem d_L_law_253 : decode code 253 = .ok (.iadd, 1) := by decide +kernel
theorem d_L_law_254 : decode code 254 = .ok (.iaload, 1) := by decide +kernel
theorem d_L_law_255 : decode code 255 = .ok (.aload_n 0, 1) := by decide +kernel
theorem d_L_law_256 : decode code 256 = .ok (.iload_n 3, 1) := by decide +kernel
theorem d_L_law_257 : decode code 257 = .ok (.iconst 2, 1) := by decide +kernel
theorem d_L_law_258 : decode code 258 = .ok (.iadd, 1) := by decide +kernel
theorem d_L_law_259 : decode code 259 = .ok (.iaload, 1) := by decide +kernel
theorem d_L_law_260 : decode code 260 = .ok (.invokevirtual 30, 3) := by decide +kernel
theorem d_L_law_263 : decode code 263 = .ok (.if_icmp .eq 354, 3) := by decide +kernel
theorem d_L_law_266 : decode code 266 = .ok (.iconst 0, 1) := by decide +kernel
theorem d_L_law_267 : decode code 267 = .ok (.ireturn, 1) := by decide +kernel
theorem d_L_law_268 : decode code 268 = .ok (.aload_n 1, 1) := by decide +kernel
theorem d_L_law_269 : decode code 269 = .ok (.aload_n 0, 1) := by decide +kernel
theorem d_L_law_270 : decode code 270 = .ok (.iload_n 3, 1) := by decide +kernel
theorem d_L_law_271 : decode code 271 = .ok (.iconst 1, 1) := by decide +kernel
theorem d_L_law_272 : decode code 272 = .ok (.iadd, 1) := by decide +kernel
theorem d_L_law_273 : decode code 273 = .ok (.iaload, 1) := by decide +kernel
theorem d_L_law_274 : decode code 274 = .ok (.invokevirtual 31, 3) := by decide +kernel
theorem d_L_law_277 : decode code 277 = .ok (.aload_n 2, 1) := by decide +kernel
theorem d_L_law_278 : decode code 278 = .ok (.aload_n 0, 1) := by decide +kernel
theorem d_L_law_279 : decode code 279 = .ok (.iload_n 3, 1) := by decide +kernel
theorem d_L_law_280 : decode code 280 = .ok (.iconst 1, 1) := by decide +kernel
theorem d_L_law_281 : decode code 281 = .ok (.iadd, 1) := by decide +kernel
theorem d_L_law_282 : decode code 282 = .ok (.iaload, 1) := by decide +kernel
theorem d_L_law_283 : decode code 283 = .ok (.invokevirtual 35, 3) := by decide +kernel
theorem d_L_law_286 : decode code 286 = .ok (.if_icmp .eq 331, 3) := by decide +kernel
theorem d_L_law_289 : decode code 289 = .ok (.iconst 0, 1) := by decide +kernel
theorem d_L_law_290 : decode code 290 = .ok (.ireturn, 1) := by decide +kernel
theorem d_L_law_291 : decode code 291 = .ok (.aload_n 1, 1) := by decide +kernel
theorem d_L_law_292 : decode code 292 = .ok (.aload_n 0, 1) := by decide +kernel
theorem d_L_law_293 : decode code 293 = .ok (.iload_n 3, 1) := by decide +kernel
theorem d_L_law_294 : decode code 294 = .ok (.iconst 1, 1) := by decide +kernel
theorem d_L_law_295 : decode code 295 = .ok (.iadd, 1) := by decide +kernel
theorem d_L_law_296 : decode code 296 = .ok (.iaload, 1) := by decide +kernel
theorem d_L_law_297 : decode code 297 = .ok (.aload_n 0, 1) := by decide +kernel
theorem d_L_law_298 : decode code 298 = .ok (.iload_n 3, 1) := by decide +kernel
theorem d_L_law_299 : decode code 299 = .ok (.iconst 2, 1) := by decide +kernel
theorem d_L_law_300 : decode code 300 = .ok (.iadd, 1) := by decide +kernel
theorem d_L_law_301 : decode code 301 = .ok (.iaload, 1) := by decide +kernel
theorem d_L_law_302 : decode code 302 = .ok (.invokevirtual 36, 3) := by decide +kernel
theorem d_L_law_305 : decode code 305 = .ok (.aload_n 2, 1) := by decide +kernel
theorem d_L_law_306 : decode code 306 = .ok (.aload_n 0, 1) := by decide +kernel
theorem d_L_law_307 : decode code 307 = .ok (.iload_n 3, 1) := by decide +kernel
theorem d_L_law_308 : decode code 308 = .ok (.iconst 1, 1) := by decide +kernel
theorem d_L_law_309 : decode code 309 = .ok (.iadd, 1) := by decide +kernel
theorem d_L_law_310 : decode code 310 = .ok (.iaload, 1) := by decide +kernel
theorem d_L_law_311 : decode code 311 = .ok (.aload_n 0, 1) := by decide +kernel
theorem d_L_law_312 : decode code 312 = .ok (.iload_n 3, 1) := by decide +kernel
theorem d_L_law_313 : decode code 313 = .ok (.iconst 2, 1) := by decide +kernel
theorem d_L_law_314 : decode code 314 = .ok (.iadd, 1) := by decide +kernel
theorem d_L_law_315 : decode code 315 = .ok (.iaload, 1) := by decide +kernel
theorem d_L_law_316 : decode code 316 = .ok (.invokevirtual 39, 3) := by decide +kernel
theorem d_L_law_319 : decode code 319 = .ok (.if_icmp .eq 298, 3) := by decide +kernel
theorem d_L_law_322 : decode code 322 = .ok (.iconst 0, 1) := by decide +kernel
theorem d_L_law_323 : decode code 323 = .ok (.ireturn, 1) := by decide +kernel
theorem d_L_law_324 : decode code 324 = .ok (.aload_n 1, 1) := by decide +kernel
theorem d_L_law_325 : decode code 325 = .ok (.aload_n 0, 1) := by decide +kernel
theorem d_L_law_326 : decode code 326 = .ok (.iload_n 3, 1) := by decide +kernel
theorem d_L_law_327 : decode code 327 = .ok (.iconst 1, 1) := by decide +kernel
theorem d_L_law_328 : decode code 328 = .ok (.iadd, 1) := by decide +kernel
theorem d_L_law_329 : decode code 329 = .ok (.iaload, 1) := by decide +kernel
theorem d_L_law_330 : decode code 330 = .ok (.invokevirtual 40, 3) := by decide +kernel
theorem d_L_law_333 : decode code 333 = .ok (.aload_n 2, 1) := by decide +kernel
theorem d_L_law_334 : decode code 334 = .ok (.aload_n 0, 1) := by decide +kernel
theorem d_L_law_335 : decode code 335 = .ok (.iload_n 3, 1) := by decide +kernel
theorem d_L_law_336 : decode code 336 = .ok (.iconst 1, 1) := by decide +kernel
theorem d_L_law_337 : decode code 337 = .ok (.iadd, 1) := by decide +kernel
theorem d_L_law_338 : decode code 338 = .ok (.iaload, 1) := by decide +kernel
theorem d_L_law_339 : decode code 339 = .ok (.invokevirtual 43, 3) := by decide +kernel
theorem d_L_law_342 : decode code 342 = .ok (.if_icmp .eq 275, 3) := by decide +kernel
theorem d_L_law_345 : decode code 345 = .ok (.iconst 0, 1) := by decide +kernel
theorem d_L_law_346 : decode code 346 = .ok (.ireturn, 1) := by decide +kernel
theorem d_L_law_347 : decode code 347 = .ok (.aload_n 1, 1) := by decide +kernel
theorem d_L_law_348 : decode code 348 = .ok (.aload_n 0, 1) := by decide +kernel
theorem d_L_law_349 : decode code 349 = .ok (.iload_n 3, 1) := by decide +kernel
theorem d_L_law_350 : decode code 350 = .ok (.iconst 1, 1) := by decide +kernel
theorem d_L_law_351 : decode code 351 = .ok (.iadd, 1) := by decide +kernel
theorem d_L_law_352 : decode code 352 = .ok (.iaload, 1) := by decide +kernel
theorem d_L_law_353 : decode code 353 = .ok (.aload_n 0, 1) := by decide +kernel
theorem d_L_law_354 : decode code 354 = .ok (.iload_n 3, 1) := by decide +kernel
theorem d_L_law_355 : decode code 355 = .ok (.iconst 2, 1) := by decide +kernel
theorem d_L_law_356 : decode code 356 = .ok (.iadd, 1) := by decide +kernel
theorem d_L_law_357 : decode code 357 = .ok (.iaload, 1) := by decide +kernel
theorem d_L_law_358 : decode code 358 = .ok (.invokevirtual 44, 3) := by decide +kernel
theorem d_L_law_361 : decode code 361 = .ok (.aload_n 2, 1) := by decide +kernel
theorem d_L_law_362 : decode code 362 = .ok (.aload_n 0, 1) := by decide +kernel
theorem d_L_law_363 : decode code 363 = .ok (.iload_n 3, 1) := by decide +kernel
theorem d_L_law_364 : decode code 364 = .ok (.iconst 1, 1) := by decide +kernel
theorem d_L_law_365 : decode code 365 = .ok (.iadd, 1) := by decide +kernel
theorem d_L_law_366 : decode code 366 = .ok (.iaload, 1) := by decide +kernel
theorem d_L_law_367 : decode code 367 = .ok (.aload_n 0, 1) := by decide +kernel
theorem d_L_law_368 : decode code 368 = .ok (.iload_n 3, 1) := by decide +kernel
theorem d_L_law_369 : decode code 369 = .ok (.iconst 2, 1) := by decide +kernel
theorem d_L_law_370 : decode code 370 = .ok (.iadd, 1) := by decide +kernel
theorem d_L_law_371 : decode code 371 = .ok (.iaload, 1) := by decide +kernel
theorem d_L_law_372 : decode code 372 = .ok (.invokevirtual 47, 3) := by decide +kernel
theorem d_L_law_375 : decode code 375 = .ok (.if_icmp .eq 242, 3) := by decide +kernel
theorem d_L_law_378 : decode code 378 = .ok (.iconst 0, 1) := by decide +kernel
theorem d_L_law_379 : decode code 379 = .ok (.ireturn, 1) := by decide +kernel
theorem d_L_law_380 : decode code 380 = .ok (.aload_n 1, 1) := by decide +kernel
theorem d_L_law_381 : decode code 381 = .ok (.aload_n 0, 1) := by decide +kernel
theorem d_L_law_382 : decode code 382 = .ok (.iload_n 3, 1) := by decide +kernel
theorem d_L_law_383 : decode code 383 = .ok (.iconst 1, 1) := by decide +kernel
theorem d_L_law_384 : decode code 384 = .ok (.iadd, 1) := by decide +kernel
theorem d_L_law_385 : decode code 385 = .ok (.iaload, 1) := by decide +kernel
theorem d_L_law_386 : decode code 386 = .ok (.aload_n 0, 1) := by decide +kernel
theorem d_L_law_387 : decode code 387 = .ok (.iload_n 3, 1) := by decide +kernel
theorem d_L_law_388 : decode code 388 = .ok (.iconst 2, 1) := by decide +kernel
theorem d_L_law_389 : decode code 389 = .ok (.iadd, 1) := by decide +kernel
theorem d_L_law_390 : decode code 390 = .ok (.iaload, 1) := by decide +kernel
theorem d_L_law_391 : decode code 391 = .ok (.invokevirtual 48, 3) := by decide +kernel
theorem d_L_law_394 : decode code 394 = .ok (.aload_n 2, 1) := by decide +kernel
theorem d_L_law_395 : decode code 395 = .ok (.aload_n 0, 1) := by decide +kernel
theorem d_L_law_396 : decode code 396 = .ok (.iload_n 3, 1) := by decide +kernel
theorem d_L_law_397 : decode code 397 = .ok (.iconst 1, 1) := by decide +kernel
theorem d_L_law_398 : decode code 398 = .ok (.iadd, 1) := by decide +kernel
theorem d_L_law_399 : decode code 399 = .ok (.iaload, 1) := by decide +kernel
theorem d_L_law_400 : decode code 400 = .ok (.aload_n 0, 1) := by decide +kernel
theorem d_L_law_401 : decode code 401 = .ok (.iload_n 3, 1) := by decide +kernel
theorem d_L_law_402 : decode code 402 = .ok (.iconst 2, 1) := by decide +kernel
theorem d_L_law_403 : decode code 403 = .ok (.iadd, 1) := by decide +kernel
theorem d_L_law_404 : decode code 404 = .ok (.iaload, 1) := by decide +kernel
theorem d_L_law_405 : decode code 405 = .ok (.invokevirtual 51, 3) := by decide +kernel
theorem d_L_law_408 : decode code 408 = .ok (.if_icmp .eq 209, 3) := by decide +kernel
theorem d_L_law_411 : decode code 411 = .ok (.iconst 0, 1) := by decide +kernel
theorem d_L_law_412 : decode code 412 = .ok (.ireturn, 1) := by decide +kernel
theorem d_L_law_413 : decode code 413 = .ok (.aload_n 1, 1) := by decide +kernel
theorem d_L_law_414 : decode code 414 = .ok (.aload_n 0, 1) := by decide +kernel
theorem d_L_law_415 : decode code 415 = .ok (.iload_n 3, 1) := by decide +kernel
theorem d_L_law_416 : decode code 416 = .ok (.iconst 1, 1) := by decide +kernel
theorem d_L_law_417 : decode code 417 = .ok (.iadd, 1) := by decide +kernel
theorem d_L_law_418 : decode code 418 = .ok (.iaload, 1) := by decide +kernel
theorem d_L_law_419 : decode code 419 = .ok (.aload_n 0, 1) := by decide +kernel
theorem d_L_law_420 : decode code 420 = .ok (.iload_n 3, 1) := by decide +kernel
theorem d_L_law_421 : decode code 421 = .ok (.iconst 2, 1) := by decide +kernel
theorem d_L_law_422 : decode code 422 = .ok (.iadd, 1) := by decide +kernel
theorem d_L_law_423 : decode code 423 = .ok (.iaload, 1) := by decide +kernel
theorem d_L_law_424 : decode code 424 = .ok (.invokevirtual 52, 3) := by decide +kernel
theorem d_L_law_427 : decode code 427 = .ok (.aload_n 2, 1) := by decide +kernel
theorem d_L_law_428 : decode code 428 = .ok (.aload_n 0, 1) := by decide +kernel
theorem d_L_law_429 : decode code 429 = .ok (.iload_n 3, 1) := by decide +kernel
theorem d_L_law_430 : decode code 430 = .ok (.iconst 1, 1) := by decide +kernel
theorem d_L_law_431 : decode code 431 = .ok (.iadd, 1) := by decide +kernel
theorem d_L_law_432 : decode code 432 = .ok (.iaload, 1) := by decide +kernel
theorem d_L_law_433 : decode code 433 = .ok (.aload_n 0, 1) := by decide +kernel
theorem d_L_law_434 : decode code 434 = .ok (.iload_n 3, 1) := by decide +kernel
theorem d_L_law_435 : decode code 435 = .ok (.iconst 2, 1) := by decide +kernel
theorem d_L_law_436 : decode code 436 = .ok (.iadd, 1) := by decide +kernel
theorem d_L_law_437 : decode code 437 = .ok (.iaload, 1) := by decide +kernel
theorem d_L_law_438 : decode code 438 = .ok (.invokevirtual 55, 3) := by decide +kernel
theorem d_L_law_441 : decode code 441 = .ok (.if_icmp .eq 176, 3) := by decide +kernel
theorem d_L_law_444 : decode code 444 = .ok (.iconst 0, 1) := by decide +kernel
theorem d_L_law_445 : decode code 445 = .ok (.ireturn, 1) := by decide +kernel
theorem d_L_law_446 : decode code 446 = .ok (.aload_n 1, 1) := by decide +kernel
theorem d_L_law_447 : decode code 447 = .ok (.aload_n 0, 1) := by decide +kernel
theorem d_L_law_448 : decode code 448 = .ok (.iload_n 3, 1) := by decide +kernel
theorem d_L_law_449 : decode code 449 = .ok (.iconst 1, 1) := by decide +kernel
theorem d_L_law_450 : decode code 450 = .ok (.iadd, 1) := by decide +kernel
theorem d_L_law_451 : decode code 451 = .ok (.iaload, 1) := by decide +kernel
theorem d_L_law_452 : decode code 452 = .ok (.invokevirtual 56, 3) := by decide +kernel
theorem d_L_law_455 : decode code 455 = .ok (.aload_n 2, 1) := by decide +kernel
theorem d_L_law_456 : decode code 456 = .ok (.aload_n 0, 1) := by decide +kernel
theorem d_L_law_457 : decode code 457 = .ok (.iload_n 3, 1) := by decide +kernel
theorem d_L_law_458 : decode code 458 = .ok (.iconst 1, 1) := by decide +kernel
theorem d_L_law_459 : decode code 459 = .ok (.iadd, 1) := by decide +kernel
theorem d_L_law_460 : decode code 460 = .ok (.iaload, 1) := by decide +kernel
theorem d_L_law_461 : decode code 461 = .ok (.invokevirtual 59, 3) := by decide +kernel
theorem d_L_law_464 : decode code 464 = .ok (.if_icmp .eq 153, 3) := by decide +kernel
theorem d_L_law_467 : decode code 467 = .ok (.iconst 0, 1) := by decide +kernel
theorem d_L_law_468 : decode code 468 = .ok (.ireturn, 1) := by decide +kernel
theorem d_L_law_469 : decode code 469 = .ok (.aload_n 1, 1) := by decide +kernel
theorem d_L_law_470 : decode code 470 = .ok (.aload_n 0, 1) := by decide +kernel
theorem d_L_law_471 : decode code 471 = .ok (.iload_n 3, 1) := by decide +kernel
theorem d_L_law_472 : decode code 472 = .ok (.iconst 1, 1) := by decide +kernel
theorem d_L_law_473 : decode code 473 = .ok (.iadd, 1) := by decide +kernel
theorem d_L_law_474 : decode code 474 = .ok (.iaload, 1) := by decide +kernel
theorem d_L_law_475 : decode code 475 = .ok (.invokevirtual 60, 3) := by decide +kernel
theorem d_L_law_478 : decode code 478 = .ok (.aload_n 2, 1) := by decide +kernel
theorem d_L_law_479 : decode code 479 = .ok (.aload_n 0, 1) := by decide +kernel
theorem d_L_law_480 : decode code 480 = .ok (.iload_n 3, 1) := by decide +kernel
theorem d_L_law_481 : decode code 481 = .ok (.iconst 1, 1) := by decide +kernel
theorem d_L_law_482 : decode code 482 = .ok (.iadd, 1) := by decide +kernel
theorem d_L_law_483 : decode code 483 = .ok (.iaload, 1) := by decide +kernel
theorem d_L_law_484 : decode code 484 = .ok (.invokevirtual 63, 3) := by decide +kernel
theorem d_L_law_487 : decode code 487 = .ok (.if_icmp .eq 130, 3) := by decide +kernel
theorem d_L_law_490 : decode code 490 = .ok (.iconst 0, 1) := by decide +kernel
theorem d_L_law_491 : decode code 491 = .ok (.ireturn, 1) := by decide +kernel
theorem d_L_law_492 : decode code 492 = .ok (.aload_n 1, 1) := by decide +kernel
theorem d_L_law_493 : decode code 493 = .ok (.aload_n 0, 1) := by decide +kernel
theorem d_L_law_494 : decode code 494 = .ok (.iload_n 3, 1) := by decide +kernel
theorem d_L_law_495 : decode code 495 = .ok (.iconst 1, 1) := by decide +kernel
theorem d_L_law_496 : decode code 496 = .ok (.iadd, 1) := by decide +kernel
theorem d_L_law_497 : decode code 497 = .ok (.iaload, 1) := by decide +kernel
theorem d_L_law_498 : decode code 498 = .ok (.invokevirtual 64, 3) := by decide +kernel
theorem d_L_law_501 : decode code 501 = .ok (.aload_n 2, 1) := by decide +kernel
theorem d_L_law_502 : decode code 502 = .ok (.aload_n 0, 1) := by decide +kernel
theorem d_L_law_503 : decode code 503 = .ok (.iload_n 3, 1) := by decide +kernel
theorem d_L_law_504 : decode code 504 = .ok (.iconst 1, 1) := by decide +kernel
theorem d_L_law_505 : decode code 505 = .ok (.iadd, 1) := by decide +kernel
theorem d_L_law_506 : decode code 506 = .ok (.iaload, 1) := by decide +kernel
theorem d_L_law_507 : decode code 507 = .ok (.invokevirtual 68, 3) := by decide +kernel
theorem d_L_law_510 : decode code 510 = .ok (.if_icmp .eq 107, 3) := by decide +kernel
theorem d_L_law_513 : decode code 513 = .ok (.iconst 0, 1) := by decide +kernel
theorem d_L_law_514 : decode code 514 = .ok (.ireturn, 1) := by decide +kernel
theorem d_L_law_515 : decode code 515 = .ok (.aload_n 1, 1) := by decide +kernel
theorem d_L_law_516 : decode code 516 = .ok (.aload_n 0, 1) := by decide +kernel
theorem d_L_law_517 : decode code 517 = .ok (.iload_n 3, 1) := by decide +kernel
theorem d_L_law_518 : decode code 518 = .ok (.iconst 1, 1) := by decide +kernel
theorem d_L_law_519 : decode code 519 = .ok (.iadd, 1) := by decide +kernel
theorem d_L_law_520 : decode code 520 = .ok (.iaload, 1) := by decide +kernel
theorem d_L_law_521 : decode code 521 = .ok (.invokevirtual 69, 3) := by decide +kernel
theorem d_L_law_524 : decode code 524 = .ok (.aload_n 2, 1) := by decide +kernel
theorem d_L_law_525 : decode code 525 = .ok (.aload_n 0, 1) := by decide +kernel
theorem d_L_law_526 : decode code 526 = .ok (.iload_n 3, 1) := by decide +kernel
theorem d_L_law_527 : decode code 527 = .ok (.iconst 1, 1) := by decide +kernel
theorem d_L_law_528 : decode code 528 = .ok (.iadd, 1) := by decide +kernel
theorem d_L_law_529 : decode code 529 = .ok (.iaload, 1) := by decide +kernel
theorem d_L_law_530 : decode code 530 = .ok (.invokevirtual 72, 3) := by decide +kernel
theorem d_L_law_533 : decode code 533 = .ok (.if_icmp .eq 84, 3) := by decide +kernel
theorem d_L_law_536 : decode code 536 = .ok (.iconst 0, 1) := by decide +kernel
theorem d_L_law_537 : decode code 537 = .ok (.ireturn, 1) := by decide +kernel
theorem d_L_law_538 : decode code 538 = .ok (.aload_n 1, 1) := by decide +kernel
theorem d_L_law_539 : decode code 539 = .ok (.aload_n 0, 1) := by decide +kernel
theorem d_L_law_540 : decode code 540 = .ok (.iload_n 3, 1) := by decide +kernel
theorem d_L_law_541 : decode code 541 = .ok (.iconst 1, 1) := by decide +kernel
theorem d_L_law_542 : decode code 542 = .ok (.iadd, 1) := by decide +kernel
theorem d_L_law_543 : decode code 543 = .ok (.iaload, 1) := by decide +kernel
theorem d_L_law_544 : decode code 544 = .ok (.invokevirtual 73, 3) := by decide +kernel
theorem d_L_law_547 : decode code 547 = .ok (.aload_n 2, 1) := by decide +kernel
theorem d_L_law_548 : decode code 548 = .ok (.aload_n 0, 1) := by decide +kernel
theorem d_L_law_549 : decode code 549 = .ok (.iload_n 3, 1) := by decide +kernel
theorem d_L_law_550 : decode code 550 = .ok (.iconst 1, 1) := by decide +kernel
theorem d_L_law_551 : decode code 551 = .ok (.iadd, 1) := by decide +kernel
theorem d_L_law_552 : decode code 552 = .ok (.iaload, 1) := by decide +kernel
theorem d_L_law_553 : decode code 553 = .ok (.invokevirtual 76, 3) := by decide +kernel
theorem d_L_law_556 : decode code 556 = .ok (.if_icmp .eq 61, 3) := by decide +kernel
theorem d_L_law_559 : decode code 559 = .ok (.iconst 0, 1) := by decide +kernel
theorem d_L_law_560 : decode code 560 = .ok (.ireturn, 1) := by decide +kernel
theorem d_L_law_561 : decode code 561 = .ok (.aload_n 1, 1) := by decide +kernel
theorem d_L_law_562 : decode code 562 = .ok (.aload_n 0, 1) := by decide +kernel
theorem d_L_law_563 : decode code 563 = .ok (.iload_n 3, 1) := by decide +kernel
theorem d_L_law_564 : decode code 564 = .ok (.iconst 1, 1) := by decide +kernel
theorem d_L_law_565 : decode code 565 = .ok (.iadd, 1) := by decide +kernel
theorem d_L_law_566 : decode code 566 = .ok (.iaload, 1) := by decide +kernel
theorem d_L_law_567 : decode code 567 = .ok (.aload_n 0, 1) := by decide +kernel
theorem d_L_law_568 : decode code 568 = .ok (.iload_n 3, 1) := by decide +kernel
theorem d_L_law_569 : decode code 569 = .ok (.iconst 2, 1) := by decide +kernel
theorem d_L_law_570 : decode code 570 = .ok (.iadd, 1) := by decide +kernel
theorem d_L_law_571 : decode code 571 = .ok (.iaload, 1) := by decide +kernel
theorem d_L_law_572 : decode code 572 = .ok (.invokevirtual 77, 3) := by decide +kernel
theorem d_L_law_575 : decode code 575 = .ok (.aload_n 2, 1) := by decide +kernel
theorem d_L_law_576 : decode code 576 = .ok (.aload_n 0, 1) := by decide +kernel
theorem d_L_law_577 : decode code 577 = .ok (.iload_n 3, 1) := by decide +kernel
theorem d_L_law_578 : decode code 578 = .ok (.iconst 1, 1) := by decide +kernel
theorem d_L_law_579 : decode code 579 = .ok (.iadd, 1) := by decide +kernel
theorem d_L_law_580 : decode code 580 = .ok (.iaload, 1) := by decide +kernel
theorem d_L_law_581 : decode code 581 = .ok (.aload_n 0, 1) := by decide +kernel
theorem d_L_law_582 : decode code 582 = .ok (.iload_n 3, 1) := by decide +kernel
theorem d_L_law_583 : decode code 583 = .ok (.iconst 2, 1) := by decide +kernel
theorem d_L_law_584 : decode code 584 = .ok (.iadd, 1) := by decide +kernel
theorem d_L_law_585 : decode code 585 = .ok (.iaload, 1) := by decide +kernel
theorem d_L_law_586 : decode code 586 = .ok (.invokevirtual 80, 3) := by decide +kernel
theorem d_L_law_589 : decode code 589 = .ok (.if_icmp .eq 28, 3) := by decide +kernel
theorem d_L_law_592 : decode code 592 = .ok (.iconst 0, 1) := by decide +kernel
theorem d_L_law_593 : decode code 593 = .ok (.ireturn, 1) := by decide +kernel
theorem d_L_law_594 : decode code 594 = .ok (.aload_n 1, 1) := by decide +kernel
theorem d_L_law_595 : decode code 595 = .ok (.aload_n 0, 1) := by decide +kernel
theorem d_L_law_596 : decode code 596 = .ok (.iload_n 3, 1) := by decide +kernel
theorem d_L_law_597 : decode code 597 = .ok (.iconst 1, 1) := by decide +kernel
theorem d_L_law_598 : decode code 598 = .ok (.iadd, 1) := by decide +kernel
theorem d_L_law_599 : decode code 599 = .ok (.iaload, 1) := by decide +kernel
theorem d_L_law_600 : decode code 600 = .ok (.invokevirtual 81, 3) := by decide +kernel
theorem d_L_law_603 : decode code 603 = .ok (.aload_n 2, 1) := by decide +kernel
theorem d_L_law_604 : decode code 604 = .ok (.aload_n 0, 1) := by decide +kernel
theorem d_L_law_605 : decode code 605 = .ok (.iload_n 3, 1) := by decide +kernel
theorem d_L_law_606 : decode code 606 = .ok (.iconst 1, 1) := by decide +kernel
theorem d_L_law_607 : decode code 607 = .ok (.iadd, 1) := by decide +kernel
theorem d_L_law_608 : decode code 608 = .ok (.iaload, 1) := by decide +kernel
theorem d_L_law_609 : decode code 609 = .ok (.invokevirtual 84, 3) := by decide +kernel
theorem d_L_law_612 : decode code 612 = .ok (.if_icmp .eq 5, 3) := by decide +kernel
theorem d_L_law_615 : decode code 615 = .ok (.iconst 0, 1) := by decide +kernel
theorem d_L_law_616 : decode code 616 = .ok (.ireturn, 1) := by decide +kernel
theorem d_L_law_617 : decode code 617 = .ok (.iinc 3 4, 3) := by decide +kernel
theorem d_L_law_620 : decode code 620 = .ok (.goto (-602), 3) := by decide +kernel
theorem d_L_law_623 : decode code 623 = .ok (.iconst 1, 1) := by decide +kernel
theorem d_L_law_624 : decode code 624 = .ok (.ireturn, 1) := by decide +kernel
end
section
/-! The world: the class's cells (places 0 .. 36) and the model's (37 .. 59), at the addresses q 0, q 1 ..
X tag row index (the class): 0 parts 1 tallies 2 count 3 states 4 values 5 owed 6 waiting 7 operation 8 operand 9 finished 10 latestResult 11 memories 12 keepings 13 owners 14 sharers
M tag index (the model): its fields in their order (15: rows) -/
abbrev zXS : Type := Nat → Nat → Nat → Int32
abbrev zMS : Type := Nat → Nat → Int32
def u3 (X : zXS) (t c l : Nat) (v : Int32) : zXS := fun t' => if t' = t then (fun c' => if c' = c then upd (X t' c') l v else X t' c') else X t'
def u2 (M : zMS) (t i : Nat) (v : Int32) : zMS := fun t' => if t' = t then upd (M t') i v else M t'
abbrev zCl : List vw_C := [(R_S, F_S, 3), (R_A, F_A, 3), (R_C, F_C, 10), (R_H, F_H, 5), (R_M, F_M, 23)]
abbrev zT (k : Nat → ClassId) : List (ClassId × FieldType) := [(k 0, .int), (k 1, .boolean), (k 2, .array .int), (k 3, .object R_C)]
abbrev zcf (q : Nat → Nat) (X : zXS) (c : Nat) : List Value := [.int (nI c), .ref (q 1), .ref (q (17 + 4 * c)), .ref (q (18 + 4 * c)), .ref (q (19 + 4 * c)), .int (X 6 c 0), .int (X 7 c 0), .int (X 8 c 0), .int (X 9 c 0), .int (X 10 c 0)]
def zW (q : Nat → Nat) (k : Nat → ClassId) (X : zXS) (M : zMS) : va_W := [(q 0, .inr (0, [.ref (q 1), .ref (q 15), .ref (q 32)])), (q 1, .inr (1, [.ref (q 2), .ref (q 10), .int (X 2 0 0)])), (q 2, .inl (k 2, 7, .inr (.inr (.inr (.inr (fun i => some (q (3 + i)))))))), (q 3, .inl (k 0, 64, .inl (X 0 0))), (q 4, .inl (k 0, 64, .inl (X 0 1))), (q 5, .inl (k 0, 64, .inl (X 0 2))), (q 6, .inl (k 0, 64, .inl (X 0 3))), (q 7, .inl (k 0, 64, .inl (X 0 4))), (q 8, .inl (k 0, 64, .inl (X 0 5))), (q 9, .inl (k 0, 64, .inl (X 0 6))), (q 10, .inl (k 2, 4, .inr (.inr (.inr (.inr (fun i => some (q (11 + i)))))))), (q 11, .inl (k 0, 4, .inl (X 1 0))), (q 12, .inl (k 0, 4, .inl (X 1 1))), (q 13, .inl (k 0, 4, .inl (X 1 2))), (q 14, .inl (k 0, 4, .inl (X 1 3))), (q 15, .inl (k 3, 4, .inr (.inr (.inr (.inr (fun i => some (q (16 + 4 * i)))))))), (q 16, .inr (2, zcf q X 0)), (q 17, .inl (k 0, 4, .inl (X 3 0))), (q 18, .inl (k 0, 4, .inl (X 4 0))), (q 19, .inl (k 0, 4, .inl (X 5 0))), (q 20, .inr (2, zcf q X 1)), (q 21, .inl (k 0, 4, .inl (X 3 1))), (q 22, .inl (k 0, 4, .inl (X 4 1))), (q 23, .inl (k 0, 4, .inl (X 5 1))), (q 24, .inr (2, zcf q X 2)), (q 25, .inl (k 0, 4, .inl (X 3 2))), (q 26, .inl (k 0, 4, .inl (X 4 2))), (q 27, .inl (k 0, 4, .inl (X 5 2))), (q 28, .inr (2, zcf q X 3)), (q 29, .inl (k 0, 4, .inl (X 3 3))), (q 30, .inl (k 0, 4, .inl (X 4 3))), (q 31, .inl (k 0, 4, .inl (X 5 3))), (q 32, .inr (3, [.ref (q 1), .ref (q 33), .ref (q 34), .ref (q 35), .ref (q 36)])), (q 33, .inl (k 0, 4, .inl (X 11 0))), (q 34, .inl (k 0, 4, .inl (X 12 0))), (q 35, .inl (k 0, 4, .inl (X 13 0))), (q 36, .inl (k 0, 4, .inl (X 14 0))), (q 37, .inr (4, [.ref (q 38), .ref (q 39), .ref (q 40), .ref (q 41), .ref (q 42), .ref (q 43), .ref (q 44), .ref (q 45), .ref (q 46), .ref (q 47), .ref (q 48), .ref (q 49), .ref (q 50), .ref (q 51), .ref (q 52), .int (M 15 0), .ref (q 53), .ref (q 54), .ref (q 55), .ref (q 56), .ref (q 57), .ref (q 58), .ref (q 59)])), (q 38, .inl (k 0, 16, .inl (M 0))), (q 39, .inl (k 0, 16, .inl (M 1))), (q 40, .inl (k 0, 16, .inl (M 2))), (q 41, .inl (k 0, 16, .inl (M 3))), (q 42, .inl (k 0, 16, .inl (M 4))), (q 43, .inl (k 1, 4, .inl (M 5))), (q 44, .inl (k 0, 4, .inl (M 6))), (q 45, .inl (k 0, 4, .inl (M 7))), (q 46, .inl (k 0, 4, .inl (M 8))), (q 47, .inl (k 0, 4, .inl (M 9))), (q 48, .inl (k 0, 4, .inl (M 10))), (q 49, .inl (k 0, 4, .inl (M 11))), (q 50, .inl (k 0, 4, .inl (M 12))), (q 51, .inl (k 0, 4, .inl (M 13))), (q 52, .inl (k 0, 4, .inl (M 14))), (q 53, .inl (k 0, 200, .inl (M 16))), (q 54, .inl (k 0, 200, .inl (M 17))), (q 55, .inl (k 0, 200, .inl (M 18))), (q 56, .inl (k 0, 200, .inl (M 19))), (q 57, .inl (k 0, 200, .inl (M 20))), (q 58, .inl (k 0, 200, .inl (M 21))), (q 59, .inl (k 0, 200, .inl (M 22)))]
def zNest : Cond → Bool
  | .fieldLinkNest .. => true
  | .methodLinkNest .. => true
  | _ => false
def zNw : List Cond := lw_tbl.filter zNest
def zA (q : Nat → Nat) : Nat → Prop := fun a => ∃ i, i < 60 ∧ a = q i
def zCx (p : Program) (s : State) (m : MethodId) (args : Array Value) (c : Code) (cc : ByteArray) (nL : Nat) (own : String) (dC : Nat → ClassId) (dI : Nat → Nat → Nat) (k : Nat → ClassId) : Prop :=
  p.tables.exec = Jvm.exec ∧ c.code = cc ∧ c.maxLocals = nL ∧ s.vm.findClass own = some m.cls ∧ (∀ w ∈ zB, w.before args s = true) ∧ va_K (dC, dI) zCl (zT k) s ∧ ∀ w ∈ zNw, va_Nw w s
def zH (dC : Nat → ClassId) (dI : Nat → Nat → Nat) (k : Nat → ClassId) (q : Nat → Nat) (X : zXS) (M : zMS) (A : Nat → Prop) (H0 H : Heap) (locs : List Loc) : Prop :=
  va_P (dC, dI) zCl (zW q k X M) H ∧ va_D A (zW q k X M) ∧ va_S A H0 H locs
/-- a contract: from the world (X, M) to the answer rv and the world (X', M') -/
def zPc (dC : Nat → ClassId) (dI : Nat → Nat → Nat) (k : Nat → ClassId) (q : Nat → Nat) (X : zXS) (M : zMS) (av : List Value) : Array Value → State → Prop := va_Pc av (fun U => va_P (dC, dI) zCl (zW q k X M) U.heap ∧ va_K (dC, dI) zCl (zT k) U ∧ va_D (zA q) (zW q k X M) ∧ ∀ w ∈ zNw, va_Nw w U)
def zQc (dC : Nat → ClassId) (dI : Nat → Nat → Nat) (k : Nat → ClassId) (q : Nat → Nat) (X : zXS) (M : zMS) (rv : Option Value) : Array Value → State → Outcome → State → Prop := fun _ st oc t => oc = .returned rv ∧ va_P (dC, dI) zCl (zW q k X M) t.heap ∧ va_F (zA q) st t
def zMet (l : Launch) (dC : Nat → ClassId) (dI : Nat → Nat → Nat) (k : Nat → ClassId) (q : Nat → Nat) (y : MethodName) (b : ByteArray) (n : Nat) (rt : Option FieldType) (fr lo : Nat) (av : List Value) (rv : Option Value) (X : zXS) (M : zMS) (X' : zXS) (M' : zMS) : Prop :=
  Met l y (.code y b n rt :: zB) { frames := fr, cells := 0, slots := 0, locals := lo } (zPc dC dI k q X M av) (zQc dC dI k q X' M' rv) 0 0 (zA q)
theorem zW_addr (q : Nat → Nat) (k : Nat → ClassId) (X : zXS) (M : zMS) : (zW q k X M).map (·.1) = (List.range 60).map q := rfl
theorem zW_at {q : Nat → Nat} {k : Nat → ClassId} {X : zXS} {M : zMS} {i : Nat} {x : Nat × va_E} (h : (zW q k X M)[i]? = some x) : i < 60 ∧ x.1 = q i := by
  have h1 : ((zW q k X M).map (·.1))[i]? = some x.1 := by rw [List.getElem?_map, h]; rfl
  rw [zW_addr, List.getElem?_map] at h1
  by_cases hi : i < 60
  · rw [List.getElem?_range hi] at h1
    exact ⟨hi, (Option.some.inj h1).symm⟩
  · rw [List.getElem?_eq_none (by rw [List.length_range]; omega)] at h1
    cases h1
theorem zW_some (q : Nat → Nat) (k : Nat → ClassId) (X : zXS) (M : zMS) {i : Nat} (hi : i < 60) : ∃ e : va_E, (zW q k X M)[i]? = some (q i, e) := by
  have hl : (zW q k X M).length = 60 := rfl
  have h := List.getElem?_eq_getElem (l := zW q k X M) (i := i) (by omega)
  have h2 := (zW_at h).2
  exact ⟨((zW q k X M)[i]'(by omega)).2, by rw [h]; congr 1; exact Prod.ext h2 rfl⟩
theorem zD_any {A : Nat → Prop} {q : Nat → Nat} {k : Nat → ClassId} {X X' : zXS} {M M' : zMS} (h : va_D A (zW q k X M)) : va_D A (zW q k X' M') := by
  refine ⟨fun i j x y hi hj hxy => ?_, fun i x hi => ?_⟩
  · obtain ⟨h1, e1⟩ := zW_at hi
    obtain ⟨h2, e2⟩ := zW_at hj
    obtain ⟨a, ha⟩ := zW_some q k X M h1
    obtain ⟨b, hb⟩ := zW_some q k X M h2
    exact h.1 i j _ _ ha hb (by rw [← e1, ← e2]; exact hxy)
  · obtain ⟨h1, e1⟩ := zW_at hi
    obtain ⟨a, ha⟩ := zW_some q k X M h1
    rw [e1]
    exact h.2 i _ ha
theorem zD_self {A : Nat → Prop} {q : Nat → Nat} {k : Nat → ClassId} {X : zXS} {M : zMS} (h : va_D A (zW q k X M)) : va_D (zA q) (zW q k X M) :=
  ⟨h.1, fun i x hi => ⟨i, (zW_at hi).1, (zW_at hi).2⟩⟩
theorem zA_le {A : Nat → Prop} {q : Nat → Nat} {k : Nat → ClassId} {X : zXS} {M : zMS} (h : va_D A (zW q k X M)) : ∀ a, zA q a → A a := by
  rintro a ⟨i, hi, rfl⟩
  obtain ⟨e, he⟩ := zW_some q k X M hi
  exact h.2 i _ he
section ZR
variable {p : Program} {l : Launch} {e : Env} {R : Room} {s : State} {m : MethodId} {args : Array Value} {below : List Frame} {meth : Method} {c : Code} {H : Heap} {locs : List Loc} {cells slots : Nat} {Q : State → Prop}
variable {cc : ByteArray} {nL pc : Nat} {ls : Array Slot} {rest : List Value} {own : String} {dC : Nat → ClassId} {dI : Nat → Nat → Nat} {k : Nat → ClassId} {q : Nat → Nat} {X X' : zXS} {M M' : zMS} {A : Nat → Prop} {H0 : Heap}
theorem z_get (C : zCx p s m args c cc nL own dC dI k) (h : zH dC dI k q X M A H0 H locs) {cls : String} {T : u_T} {N ci index a : Nat} {fs : List Value} {v : Value} (i : Nat) (hi : (zW q k X M)[i]? = some (a, .inr (ci, fs))) (hc : zCl[ci]? = some (cls, T, N)) (f : Nat) (hf : f < N) (hin : ∀ w ∈ u_ws cls T N, w ∈ zB) (hw : Cond.fieldLink own index (T f).1 (T f).2.1 (T f).2.2.1 ∈ zB) (hv : fs[f]? = some v)
    (hdg : decode cc pc = .ok (.getfield index, 3)) (kk : W p l e R s m args below meth c H locs cells slots Q (F0 m (pc + 3) ls (v :: rest))) : W p l e R s m args below meth c H locs cells slots Q (F0 m pc ls (.ref a :: rest)) := by
  obtain ⟨hx, hb, -, hown, hts, hK, -⟩ := C
  exact va_get hx hb hts hin hown hK h.1 i hi hc f hf (hts _ hw) (fun _ h9 => h9) hv hdg kk
theorem z_getN (C : zCx p s m args c cc nL own dC dI k) (h : zH dC dI k q X M A H0 H locs) {cls host : String} {T : u_T} {N ci index a : Nat} {fs : List Value} {v : Value} (i : Nat) (hi : (zW q k X M)[i]? = some (a, .inr (ci, fs))) (hc : zCl[ci]? = some (cls, T, N)) (f : Nat) (hf : f < N) (hin : ∀ w ∈ u_ws cls T N, w ∈ zB) (hw : Cond.fieldLinkNest own index (T f).1 (T f).2.1 (T f).2.2.1 host ∈ zNw) (hv : fs[f]? = some v)
    (hdg : decode cc pc = .ok (.getfield index, 3)) (kk : W p l e R s m args below meth c H locs cells slots Q (F0 m (pc + 3) ls (v :: rest))) : W p l e R s m args below meth c H locs cells slots Q (F0 m pc ls (.ref a :: rest)) := by
  obtain ⟨hx, hb, -, hown, hts, hK, hN⟩ := C
  exact va_getN hx hb hts hin hown hK h.1 i hi hc f hf (va_Nw.use rfl (hN _ hw)) (fun _ h9 => h9) hv hdg kk
theorem z_put (C : zCx p s m args c cc nL own dC dI k) (h : zH dC dI k q X M A H0 H locs) {cls : String} {T : u_T} {N ci index a : Nat} {fs : List Value} {v : Value} {ty : FieldType} (i : Nat) (hi : (zW q k X M)[i]? = some (a, .inr (ci, fs))) (hc : zCl[ci]? = some (cls, T, N)) (f : Nat) (hf : f < N) (hin : ∀ w ∈ u_ws cls T N, w ∈ zB) (ty0 : Nat → FieldType) (hty : ∀ k, k < N → parseFieldDescriptor (T k).2.2.1 = some (ty0 k)) (hnm : ∀ a, a < N → ∀ b, b < N → a ≠ b → (T a).2.1 ≠ (T b).2.1) (hw : Cond.fieldLink own index (T f).1 (T f).2.1 (T f).2.2.1 ∈ zB) (hfin : (T f).2.2.2 = false) (hd : parseFieldDescriptor (T f).2.2.1 = some ty) (hn : narrow ty v = v) (hfit : fits ty v = true) (hl : f < fs.length)
    (hs : (zW q k X M).set i (a, .inr (ci, fs.set f v)) = zW q k X' M') (hdg : decode cc pc = .ok (.putfield index, 3)) (kk : ∀ (H1 : Heap) (locs1 : List Loc), zH dC dI k q X' M' A H0 H1 locs1 → W p l e R s m args below meth c H1 locs1 cells slots Q (F0 m (pc + 3) ls rest)) : W p l e R s m args below meth c H locs cells slots Q (F0 m pc ls (v :: .ref a :: rest)) := by
  obtain ⟨hx, hb, -, hown, hts, hK, -⟩ := C
  obtain ⟨hP, hD, hS⟩ := h
  exact va_put hx hb hts hin ty0 hty hnm hown hK hP hD hS i hi hc f hf (hts _ hw) (fun _ h9 => h9) hfin hd hn hfit hl hdg (fun H1 locs1 h1 h2 h3 => kk H1 locs1 ⟨by rw [← hs]; exact h1, by rw [← hs]; exact h2, h3⟩)
theorem z_ld (C : zCx p s m args c cc nL own dC dI k) (h : zH dC dI k q X M A H0 H locs) {a n : Nat} {f : Nat → Int32} (i : Nat) (hi : (zW q k X M)[i]? = some (a, .inl (k 0, n, .inl f))) {j : Int32} (hin : vp_in j n) (hdg : decode cc pc = .ok (.iaload, 1))
    (kk : W p l e R s m args below meth c H locs cells slots Q (F0 m (pc + 1) ls (.int (f j.toNatClampNeg) :: rest))) : W p l e R s m args below meth c H locs cells slots Q (F0 m pc ls (.int j :: .ref a :: rest)) :=
  va_iald C.1 C.2.1 C.2.2.2.2.2.1 h.1 i 0 hi rfl hin hdg kk
theorem z_st (C : zCx p s m args c cc nL own dC dI k) (h : zH dC dI k q X M A H0 H locs) {a n : Nat} {f : Nat → Int32} (i : Nat) (hi : (zW q k X M)[i]? = some (a, .inl (k 0, n, .inl f))) {j x : Int32} (hin : vp_in j n) (hs : (zW q k X M).set i (a, .inl (k 0, n, .inl (upd f j.toNatClampNeg x))) = zW q k X' M') (hdg : decode cc pc = .ok (.iastore, 1))
    (kk : ∀ (H1 : Heap) (locs1 : List Loc), zH dC dI k q X' M' A H0 H1 locs1 → W p l e R s m args below meth c H1 locs1 cells slots Q (F0 m (pc + 1) ls rest)) : W p l e R s m args below meth c H locs cells slots Q (F0 m pc ls (.int x :: .int j :: .ref a :: rest)) :=
  va_iast C.1 C.2.1 C.2.2.2.2.2.1 h.1 h.2.1 h.2.2 i 0 hi rfl hin hdg (fun H1 locs1 h1 h2 h3 => kk H1 locs1 ⟨by rw [← hs]; exact h1, by rw [← hs]; exact h2, h3⟩)
theorem z_ldz (C : zCx p s m args c cc nL own dC dI k) (h : zH dC dI k q X M A H0 H locs) {a n : Nat} {f : Nat → Int32} (i : Nat) (hi : (zW q k X M)[i]? = some (a, .inl (k 1, n, .inl f))) {j : Int32} (hin : vp_in j n) (hdg : decode cc pc = .ok (.baload, 1))
    (kk : W p l e R s m args below meth c H locs cells slots Q (F0 m (pc + 1) ls (.int (f j.toNatClampNeg) :: rest))) : W p l e R s m args below meth c H locs cells slots Q (F0 m pc ls (.int j :: .ref a :: rest)) :=
  va_zald C.1 C.2.1 C.2.2.2.2.2.1 h.1 i 1 hi rfl hin hdg kk
theorem z_stz (C : zCx p s m args c cc nL own dC dI k) (h : zH dC dI k q X M A H0 H locs) {a n : Nat} {f : Nat → Int32} (i : Nat) (hi : (zW q k X M)[i]? = some (a, .inl (k 1, n, .inl f))) {j x : Int32} (hin : vp_in j n) (hs : (zW q k X M).set i (a, .inl (k 1, n, .inl (upd f j.toNatClampNeg (vp_nar .boolean x)))) = zW q k X' M') (hdg : decode cc pc = .ok (.bastore, 1))
    (kk : ∀ (H1 : Heap) (locs1 : List Loc), zH dC dI k q X' M' A H0 H1 locs1 → W p l e R s m args below meth c H1 locs1 cells slots Q (F0 m (pc + 1) ls rest)) : W p l e R s m args below meth c H locs cells slots Q (F0 m pc ls (.int x :: .int j :: .ref a :: rest)) :=
  va_zast C.1 C.2.1 C.2.2.2.2.2.1 h.1 h.2.1 h.2.2 i 1 hi rfl hin hdg (fun H1 locs1 h1 h2 h3 => kk H1 locs1 ⟨by rw [← hs]; exact h1, by rw [← hs]; exact h2, h3⟩)
/-- an element of an array of int arrays -/
theorem z_la (C : zCx p s m args c cc nL own dC dI k) (h : zH dC dI k q X M A H0 H locs) {a n b : Nat} {f : Nat → Option Nat} (i : Nat) (hi : (zW q k X M)[i]? = some (a, .inl (k 2, n, .inr (.inr (.inr (.inr f)))))) {j : Int32} (hin : vp_in j n) (hb9 : f j.toNatClampNeg = some b) (hdg : decode cc pc = .ok (.aaload, 1))
    (kk : W p l e R s m args below meth c H locs cells slots Q (F0 m (pc + 1) ls (.ref b :: rest))) : W p l e R s m args below meth c H locs cells slots Q (F0 m pc ls (.int j :: .ref a :: rest)) := by
  have hlt : j.toNatClampNeg < n := Nat.not_le.mp fun z => hin (Or.inr z)
  refine W.aald (ty := .array .int) (v := .ref b) C.1 C.2.1 (h.1 i _ hi) ((C.2.2.2.2.2.1.2 2 _ rfl).1 n (fun z => va_rf (f z))) rfl (fun z => by cases z) ?_ ?_ rfl rfl hdg kk
  · show ¬ (j < 0 ∨ (arrV _ _ _).slots.size ≤ _)
    rw [arrV_size]
    exact hin
  · show (arrV _ _ _).slots[_]? = _
    rw [arrV_read _ _ hlt, hb9]
    rfl
theorem z_lc (C : zCx p s m args c cc nL own dC dI k) (h : zH dC dI k q X M A H0 H locs) {j : Int32} (hin : vp_in j 4) (hdg : decode cc pc = .ok (.aaload, 1))
    (kk : W p l e R s m args below meth c H locs cells slots Q (F0 m (pc + 1) ls (.ref (q (16 + 4 * j.toNatClampNeg)) :: rest))) : W p l e R s m args below meth c H locs cells slots Q (F0 m pc ls (.int j :: .ref (q 15) :: rest)) :=
  va_aldq C.1 C.2.1 C.2.2.2.2.2.1 h.1 15 3 rfl rfl hin hdg kk
/-- the top of the stack by another name -/
theorem z_top {x y : Int32} (hxy : x = y) (kk : W p l e R s m args below meth c H locs cells slots Q (F0 m pc ls (.int y :: rest))) : W p l e R s m args below meth c H locs cells slots Q (F0 m pc ls (.int x :: rest)) := hxy ▸ kk
theorem z_ret {v : Int32} (C : zCx p s m args c cc nL own dC dI k) (h : zH dC dI k q X M (zA q) s.heap H locs) (hr : meth.sig.returnType = some .int) (hlocks : meth.locks = false) (hdg : decode cc pc = .ok (.ireturn, 1)) : W p l e R s m args below meth c H locs 0 0 (MQ below (zQc dC dI k q X M (some (.int v))) args s 0 0 (zA q)) (F0 m pc ls [.int v]) :=
  W.iret C.1 C.2.1 hr (fun t ht _ => ⟨rfl, by rw [ht]; exact h.1, h.2.2.F ht⟩) h.2.2.2.2 hdg hlocks
theorem z_retz {v : Int32} (C : zCx p s m args c cc nL own dC dI k) (h : zH dC dI k q X M (zA q) s.heap H locs) (hr : meth.sig.returnType = some .boolean) (hlocks : meth.locks = false) (hv : v = 0 ∨ v = 1) (hdg : decode cc pc = .ok (.ireturn, 1)) : W p l e R s m args below meth c H locs 0 0 (MQ below (zQc dC dI k q X M (some (.int v))) args s 0 0 (zA q)) (F0 m pc ls [.int v]) :=
  W.zret C.1 C.2.1 hr (by rcases hv with rfl | rfl <;> decide +kernel) (fun t ht _ => ⟨rfl, by rw [ht]; exact h.1, h.2.2.F ht⟩) h.2.2.2.2 hdg hlocks
theorem z_retv (C : zCx p s m args c cc nL own dC dI k) (h : zH dC dI k q X M (zA q) s.heap H locs) (hr : meth.sig.returnType = none) (hlocks : meth.locks = false) (hdg : decode cc pc = .ok (.return_, 1)) : W p l e R s m args below meth c H locs 0 0 (MQ below (zQc dC dI k q X M none) args s 0 0 (zA q)) (F0 m pc ls []) :=
  W.vret C.1 C.2.1 hr (fun t ht _ => ⟨rfl, by rw [ht]; exact h.1, h.2.2.F ht⟩) h.2.2.2.2 hdg hlocks
end ZR
/-- the entry of a method -/
theorem zMet.of {l : Launch} {dC : Nat → ClassId} {dI : Nat → Nat → Nat} {k : Nat → ClassId} {q : Nat → Nat} {y : MethodName} {b : ByteArray} {n : Nat} {rt : Option FieldType} {fr lo : Nat} {av : List Value} {rv : Option Value} {X : zXS} {M : zMS} {X' : zXS} {M' : zMS} (hy : plainName y.cls = true) (hn : (lg_sl av).length ≤ n)
    (body : ∀ (p : Program) (e : Env) (s : State) (m : MethodId) (args : Array Value) (below : List Frame) (meth : Method) (c : Code) (ls : Array Slot), zCx p s m args c b n y.cls dC dI k → meth.sig.returnType = rt → meth.locks = false → lv_has ls n (lv_args 0 av) → zH dC dI k q X M (zA q) s.heap s.heap [] →
      W p l e { frames := fr, cells := 0, slots := 0, locals := lo } s m args below meth c s.heap [] 0 0 (MQ below (zQc dC dI k q X' M' rv) args s 0 0 (zA q)) (F0 m 0 ls [])) : zMet l dC dI k q y b n rt fr lo av rv X M X' M' := by
  refine Met.ofW (cc := b) (maxL := n) (ret := rt) hy rfl ?_
  intro p e s m args below meth c s₁ B hml hv
  obtain ⟨rfl, hP, hK, hD, hN⟩ := hv
  have hts := atoms_spec (ws := .code y b n rt :: zB) B.pre
  have hl := lv_entry av hn
  rw [lg_entry_eq]
  exact body p e s m _ below meth c _ ⟨B.exec, B.bytes, hml, findClass_of_methodNamed B.named, fun w hw => hts w (List.mem_cons_of_mem _ hw), hK, hN⟩ B.returns B.notSynchronized hl ⟨hP, hD, va_S.rf⟩
end
section
section ZC
variable {p : Program} {l : Launch} {e : Env} {R : Room} {s : State} {m : MethodId} {args : Array Value} {below : List Frame} {meth : Method} {c : Code} {H : Heap} {locs : List Loc} {cells slots : Nat} {Q : State → Prop}
variable {cc : ByteArray} {nL pc : Nat} {ls : Array Slot} {rest : List Value} {own : String} {dC : Nat → ClassId} {dI : Nat → Nat → Nat} {k : Nat → ClassId} {q : Nat → Nat} {X X' : zXS} {M M' : zMS} {A : Nat → Prop} {H0 : Heap}
variable {y : MethodName} {b : ByteArray} {n fr lo index : Nat} {rt : Option FieldType} {As : List Value} {rv : Option Value}
theorem zPc_blind {av : List Value} : FrameBlind (zPc dC dI k q X M av) := by
  rintro a U g mk ⟨e, hP, hK, hD, hN⟩
  exact ⟨e, hP, va_K.moved (u := U) (U := U.calling g mk a) (Vm.Alike.refl U.vm) hK, hD, fun w hw => va_Nw.same (u := U) (by
    have := (List.mem_filter.mp hw).2
    cases w <;> first | rfl | (simp [zNest] at this)) rfl (hN w hw)⟩
theorem zNw_warm {s U : State} (hW : s.WarmedH U.vm) (h : ∀ w ∈ zNw, va_Nw w s) : ∀ w ∈ zNw, va_Nw w U := by
  intro w hw
  have h1 := h w hw
  have h2 := (List.mem_filter.mp hw).2
  cases w <;> first | exact va_Nw.warmF hW h1 | exact va_Nw.warmM hW h1 | (simp [zNest] at h2)
theorem zGood {w0 : Cond} (h0 : w0 ∈ zB) : GoodIn zB (w0 :: zB) := by
  intro w hw
  rcases List.mem_cons.mp hw with rfl | hw
  · exact ⟨h0, zB_good h0⟩
  · exact ⟨hw, zB_good hw⟩
theorem z_after {mc ms : Nat} {g : JFrame} (hr : va_Run p l e R s m args below meth c H locs cells slots 0 0 g rest (zQc dC dI k q X' M' rv (Array.mk As)) (zA q)) (hg : g = F0 m pc ls g.stack) (h : zH dC dI k q X M A H0 H locs)
    (kk : ∀ (H1 : Heap) (locs1 : List Loc), zH dC dI k q X' M' A H0 H1 locs1 → W p l e R s m args below meth c H1 locs1 cells slots Q (F0 m (pc + 3) ls (rv.toList ++ rest))) : W p l e R s m args below meth c H locs cells slots Q g := by
  intro T hT Xs
  obtain ⟨v, st₀, t, T', L, h0, X1, hL, e1, e2, ⟨hv, hP, hF⟩, st⟩ := hr T hT Xs
  cases hv
  obtain ⟨hz, hk⟩ := hF
  rw [h0] at hz hk
  have hA := zA_le h.2.1
  obtain ⟨hS1, hS2, hS3⟩ := h.2.2
  obtain ⟨t2, a1, b1⟩ := kk T'.heap (locs ++ L) ⟨by rw [e1]; exact hP, zD_any h.2.1, by rw [e1]; exact Nat.le_trans hS1 hz, fun x h1 h2 => by rw [e1, hk x (Nat.lt_of_lt_of_le h1 hS1) (fun z => h2 (hA x z))]; exact hS2 x h1 h2, fun x hx => by
    rcases List.mem_append.mp hx with h | h
    · exact hS3 x h
    · exact hA _ (hL x h)⟩ T' rfl X1
  refine ⟨t2, st t2 ?_, b1⟩
  rw [hg]
  exact a1
theorem z_callV (C : zCx p s m args c cc nL own dC dI k) (h : zH dC dI k q X M A H0 H locs) {a i ci N : Nat} {T : u_T} {fs : List Value} (hM : zMet l dC dI k q y b n rt fr lo (.ref a :: As) rv X M X' M') (hcode : Cond.code y b n rt ∈ zB) (hl : Cond.methodLink own index y ∈ zB) (hi : Cond.instanceMethod y ∈ zB) (hse : Cond.selects y.cls y y ∈ zB) (hini : Cond.initialized y.cls ∈ zB)
    (hcell : (zW q k X M)[i]? = some (a, .inr (ci, fs))) (hc : zCl[ci]? = some (y.cls, T, N)) (hd : y.cls ≠ "java/lang/invoke/MethodHandle" ∧ y.cls ≠ "java/lang/invoke/VarHandle" ∧ (parseMethodDescriptor y.desc).map (fun d => d.parameters.length) = some As.length) (hR : fr + 1 ≤ R.frames ∧ 8 + (n + 11) + lo ≤ R.locals) (hcs : cells ≤ R.cells ∧ slots ≤ R.slots) (hls : ls.size = nL) (hroom : (rest.map fun v => v.category).sum ≤ 8) (hdg : decode cc pc = .ok (.invokevirtual index, 3)) {st : List Value} (hst : st = As.reverse ++ .ref a :: rest)
    (kk : ∀ (H1 : Heap) (locs1 : List Loc), zH dC dI k q X' M' A H0 H1 locs1 → W p l e R s m args below meth c H1 locs1 cells slots Q (F0 m (pc + 3) ls (rv.toList ++ rest))) : W p l e R s m args below meth c H locs cells slots Q (F0 m pc ls st) := by
  obtain ⟨hx, hb, hml, hown, hts, hK, hN⟩ := C
  subst hst
  have hG : GoodIn zB (wsV own index y.cls y (.code y b n rt :: zB)) := by
    intro w hw
    rcases List.mem_append.mp hw with h1 | h1
    · simp only [List.mem_cons, List.not_mem_nil, or_false] at h1
      rcases h1 with rfl | rfl | rfl | rfl
      · exact ⟨hl, zB_good hl⟩
      · exact ⟨hi, zB_good hi⟩
      · exact ⟨hse, zB_good hse⟩
      · exact ⟨hini, zB_good hini⟩
    · exact zGood hcode w h1
  have cw := cwV (R := R) (own := own) (index := index) (C := y.cls) (y := y) (bytes := b) (maxL := n) (ret := rt) (rm := { frames := fr, cells := 0, slots := 0, locals := lo }) (mc := 0) (ms := 0) As.length hts hG rfl rfl rfl ⟨rfl, hd⟩ hR
  have pre : PreV s H y.cls a (zPc dC dI k q X M (.ref a :: As)) As := ⟨zPc_blind, va_recv hK h.1 hc hcell, fun U hU hW => ⟨rfl, by rw [hU]; exact h.1, va_K.moved hW.alike hK, zD_self h.2.1, zNw_warm hW hN⟩⟩
  exact z_after (mc := 0) (ms := 0) (va_runV (As := As) (rest := rest) ⟨hx, hb, hml, hown, hts⟩ hM cw pre (g := F0 m pc ls (As.reverse ++ .ref a :: rest)) rfl rfl hls rfl (lv_room hroom) hdg hcs) rfl h kk
theorem z_callS (C : zCx p s m args c cc nL own dC dI k) (h : zH dC dI k q X M A H0 H locs) (hM : zMet l dC dI k q y b n rt fr lo As rv X M X' M') (hcode : Cond.code y b n rt ∈ zB) (hl : Cond.methodLink own index y ∈ zB) (hi : Cond.static y ∈ zB) (hini : Cond.initialized y.cls ∈ zB)
    (hd : y.cls ≠ "java/lang/invoke/MethodHandle" ∧ y.cls ≠ "java/lang/invoke/VarHandle" ∧ (parseMethodDescriptor y.desc).map (fun d => d.parameters.length) = some As.length) (hR : fr + 1 ≤ R.frames ∧ 8 + (n + 11) + lo ≤ R.locals) (hcs : cells ≤ R.cells ∧ slots ≤ R.slots) (hls : ls.size = nL) (hroom : (rest.map fun v => v.category).sum ≤ 8) (hdg : decode cc pc = .ok (.invokestatic index, 3)) {st : List Value} (hst : st = As.reverse ++ rest)
    (kk : ∀ (H1 : Heap) (locs1 : List Loc), zH dC dI k q X' M' A H0 H1 locs1 → W p l e R s m args below meth c H1 locs1 cells slots Q (F0 m (pc + 3) ls (rv.toList ++ rest))) : W p l e R s m args below meth c H locs cells slots Q (F0 m pc ls st) := by
  obtain ⟨hx, hb, hml, hown, hts, hK, hN⟩ := C
  subst hst
  have hG : GoodIn zB (va_wsS own index y (.code y b n rt :: zB)) := by
    intro w hw
    rcases List.mem_append.mp hw with h1 | h1
    · simp only [List.mem_cons, List.not_mem_nil, or_false] at h1
      rcases h1 with rfl | rfl | rfl
      · exact ⟨hl, zB_good hl⟩
      · exact ⟨hi, zB_good hi⟩
      · exact ⟨hini, zB_good hini⟩
    · exact zGood hcode w h1
  have cw := va_cwS (R := R) (own := own) (index := index) (y := y) (bytes := b) (maxL := n) (ret := rt) (rm := { frames := fr, cells := 0, slots := 0, locals := lo }) (mc := 0) (ms := 0) As.length hts hG rfl rfl rfl hd hR
  have pre : PreS s H (zPc dC dI k q X M As) As := ⟨zPc_blind, fun U hU hW => ⟨rfl, by rw [hU]; exact h.1, va_K.moved hW.alike hK, zD_self h.2.1, zNw_warm hW hN⟩⟩
  exact z_after (mc := 0) (ms := 0) (va_runS (As := As) (rest := rest) ⟨hx, hb, hml, hown, hts⟩ hM cw pre (g := F0 m pc ls (As.reverse ++ rest)) rfl rfl hls rfl (lv_room hroom) hdg hcs) rfl h kk
end ZC
end
section
theorem se_C_isStill : (Jvm.Cond.selects "SharerHome$Core" (⟨"SharerHome$Core", "isStill", "(I)Z"⟩ : Jvm.MethodName) (⟨"SharerHome$Core", "isStill", "(I)Z"⟩ : Jvm.MethodName)) ∈ zB := zB_mem (List.mem_of_getElem? (i := 0) rfl) rfl
theorem se_C_isEnough : (Jvm.Cond.selects "SharerHome$Core" (⟨"SharerHome$Core", "isEnough", "(I)Z"⟩ : Jvm.MethodName) (⟨"SharerHome$Core", "isEnough", "(I)Z"⟩ : Jvm.MethodName)) ∈ zB := zB_mem (List.mem_of_getElem? (i := 1) rfl) rfl
theorem se_C_finish : (Jvm.Cond.selects "SharerHome$Core" (⟨"SharerHome$Core", "finish", "(I)V"⟩ : Jvm.MethodName) (⟨"SharerHome$Core", "finish", "(I)V"⟩ : Jvm.MethodName)) ∈ zB := zB_mem (List.mem_of_getElem? (i := 2) rfl) rfl
theorem se_C_change : (Jvm.Cond.selects "SharerHome$Core" (⟨"SharerHome$Core", "change", "(II)V"⟩ : Jvm.MethodName) (⟨"SharerHome$Core", "change", "(II)V"⟩ : Jvm.MethodName)) ∈ zB := zB_mem (List.mem_of_getElem? (i := 3) rfl) rfl
theorem se_C_request : (Jvm.Cond.selects "SharerHome$Core" (⟨"SharerHome$Core", "request", "(I)V"⟩ : Jvm.MethodName) (⟨"SharerHome$Core", "request", "(I)V"⟩ : Jvm.MethodName)) ∈ zB := zB_mem (List.mem_of_getElem? (i := 4) rfl) rfl
theorem se_C_sendLeave : (Jvm.Cond.selects "SharerHome$Core" (⟨"SharerHome$Core", "sendLeave", "(IIII)V"⟩ : Jvm.MethodName) (⟨"SharerHome$Core", "sendLeave", "(IIII)V"⟩ : Jvm.MethodName)) ∈ zB := zB_mem (List.mem_of_getElem? (i := 5) rfl) rfl
theorem se_S_fateOf : (Jvm.Cond.selects "SharerHome" (⟨"SharerHome", "fateOf", "(I)I"⟩ : Jvm.MethodName) (⟨"SharerHome", "fateOf", "(I)I"⟩ : Jvm.MethodName)) ∈ zB := zB_mem (List.mem_of_getElem? (i := 6) rfl) rfl
theorem se_A_isOrdered : (Jvm.Cond.selects "SharerHome$Mail" (⟨"SharerHome$Mail", "isOrdered", "(I)Z"⟩ : Jvm.MethodName) (⟨"SharerHome$Mail", "isOrdered", "(I)Z"⟩ : Jvm.MethodName)) ∈ zB := zB_mem (List.mem_of_getElem? (i := 7) rfl) rfl
theorem se_S_isStalled : (Jvm.Cond.selects "SharerHome" (⟨"SharerHome", "isStalled", "(I)Z"⟩ : Jvm.MethodName) (⟨"SharerHome", "isStalled", "(I)Z"⟩ : Jvm.MethodName)) ∈ zB := zB_mem (List.mem_of_getElem? (i := 8) rfl) rfl
theorem se_S_handOver : (Jvm.Cond.selects "SharerHome" (⟨"SharerHome", "handOver", "(I)V"⟩ : Jvm.MethodName) (⟨"SharerHome", "handOver", "(I)V"⟩ : Jvm.MethodName)) ∈ zB := zB_mem (List.mem_of_getElem? (i := 9) rfl) rfl
theorem se_H_takeRead : (Jvm.Cond.selects "SharerHome$Home" (⟨"SharerHome$Home", "takeRead", "(II)V"⟩ : Jvm.MethodName) (⟨"SharerHome$Home", "takeRead", "(II)V"⟩ : Jvm.MethodName)) ∈ zB := zB_mem (List.mem_of_getElem? (i := 10) rfl) rfl
theorem se_H_makeOwner : (Jvm.Cond.selects "SharerHome$Home" (⟨"SharerHome$Home", "makeOwner", "(II)V"⟩ : Jvm.MethodName) (⟨"SharerHome$Home", "makeOwner", "(II)V"⟩ : Jvm.MethodName)) ∈ zB := zB_mem (List.mem_of_getElem? (i := 11) rfl) rfl
theorem se_H_takeWrite : (Jvm.Cond.selects "SharerHome$Home" (⟨"SharerHome$Home", "takeWrite", "(II)V"⟩ : Jvm.MethodName) (⟨"SharerHome$Home", "takeWrite", "(II)V"⟩ : Jvm.MethodName)) ∈ zB := zB_mem (List.mem_of_getElem? (i := 12) rfl) rfl
theorem se_H_dropOthers : (Jvm.Cond.selects "SharerHome$Home" (⟨"SharerHome$Home", "dropOthers", "(II)V"⟩ : Jvm.MethodName) (⟨"SharerHome$Home", "dropOthers", "(II)V"⟩ : Jvm.MethodName)) ∈ zB := zB_mem (List.mem_of_getElem? (i := 13) rfl) rfl
theorem se_H_takeLeave : (Jvm.Cond.selects "SharerHome$Home" (⟨"SharerHome$Home", "takeLeave", "(III)V"⟩ : Jvm.MethodName) (⟨"SharerHome$Home", "takeLeave", "(III)V"⟩ : Jvm.MethodName)) ∈ zB := zB_mem (List.mem_of_getElem? (i := 14) rfl) rfl
theorem se_H_forgetSharer : (Jvm.Cond.selects "SharerHome$Home" (⟨"SharerHome$Home", "forgetSharer", "(II)V"⟩ : Jvm.MethodName) (⟨"SharerHome$Home", "forgetSharer", "(II)V"⟩ : Jvm.MethodName)) ∈ zB := zB_mem (List.mem_of_getElem? (i := 15) rfl) rfl
theorem se_C_shareWith : (Jvm.Cond.selects "SharerHome$Core" (⟨"SharerHome$Core", "shareWith", "(II)V"⟩ : Jvm.MethodName) (⟨"SharerHome$Core", "shareWith", "(II)V"⟩ : Jvm.MethodName)) ∈ zB := zB_mem (List.mem_of_getElem? (i := 16) rfl) rfl
theorem se_C_isLeavingAlone : (Jvm.Cond.selects "SharerHome$Core" (⟨"SharerHome$Core", "isLeavingAlone", "(I)Z"⟩ : Jvm.MethodName) (⟨"SharerHome$Core", "isLeavingAlone", "(I)Z"⟩ : Jvm.MethodName)) ∈ zB := zB_mem (List.mem_of_getElem? (i := 17) rfl) rfl
theorem se_C_yieldTo : (Jvm.Cond.selects "SharerHome$Core" (⟨"SharerHome$Core", "yieldTo", "(II)V"⟩ : Jvm.MethodName) (⟨"SharerHome$Core", "yieldTo", "(II)V"⟩ : Jvm.MethodName)) ∈ zB := zB_mem (List.mem_of_getElem? (i := 18) rfl) rfl
theorem se_C_dropFor : (Jvm.Cond.selects "SharerHome$Core" (⟨"SharerHome$Core", "dropFor", "(II)V"⟩ : Jvm.MethodName) (⟨"SharerHome$Core", "dropFor", "(II)V"⟩ : Jvm.MethodName)) ∈ zB := zB_mem (List.mem_of_getElem? (i := 19) rfl) rfl
theorem se_C_takeData : (Jvm.Cond.selects "SharerHome$Core" (⟨"SharerHome$Core", "takeData", "(III)V"⟩ : Jvm.MethodName) (⟨"SharerHome$Core", "takeData", "(III)V"⟩ : Jvm.MethodName)) ∈ zB := zB_mem (List.mem_of_getElem? (i := 20) rfl) rfl
theorem se_C_ownIfNothingOwed : (Jvm.Cond.selects "SharerHome$Core" (⟨"SharerHome$Core", "ownIfNothingOwed", "(I)V"⟩ : Jvm.MethodName) (⟨"SharerHome$Core", "ownIfNothingOwed", "(I)V"⟩ : Jvm.MethodName)) ∈ zB := zB_mem (List.mem_of_getElem? (i := 21) rfl) rfl
theorem se_C_takeDropped : (Jvm.Cond.selects "SharerHome$Core" (⟨"SharerHome$Core", "takeDropped", "(I)V"⟩ : Jvm.MethodName) (⟨"SharerHome$Core", "takeDropped", "(I)V"⟩ : Jvm.MethodName)) ∈ zB := zB_mem (List.mem_of_getElem? (i := 22) rfl) rfl
theorem se_S_oldestToTake : (Jvm.Cond.selects "SharerHome" (⟨"SharerHome", "oldestToTake", "()I"⟩ : Jvm.MethodName) (⟨"SharerHome", "oldestToTake", "()I"⟩ : Jvm.MethodName)) ∈ zB := zB_mem (List.mem_of_getElem? (i := 23) rfl) rfl
theorem se_M_start : (Jvm.Cond.selects "SharerHomeModel" (⟨"SharerHomeModel", "start", "(IIII)I"⟩ : Jvm.MethodName) (⟨"SharerHomeModel", "start", "(IIII)I"⟩ : Jvm.MethodName)) ∈ zB := zB_mem (List.mem_of_getElem? (i := 24) rfl) rfl
theorem se_M_finish : (Jvm.Cond.selects "SharerHomeModel" (⟨"SharerHomeModel", "finish", "(II)V"⟩ : Jvm.MethodName) (⟨"SharerHomeModel", "finish", "(II)V"⟩ : Jvm.MethodName)) ∈ zB := zB_mem (List.mem_of_getElem? (i := 25) rfl) rfl
theorem se_M_send : (Jvm.Cond.selects "SharerHomeModel" (⟨"SharerHomeModel", "send", "(IIIIII)V"⟩ : Jvm.MethodName) (⟨"SharerHomeModel", "send", "(IIIIII)V"⟩ : Jvm.MethodName)) ∈ zB := zB_mem (List.mem_of_getElem? (i := 26) rfl) rfl
theorem se_M_sendWith : (Jvm.Cond.selects "SharerHomeModel" (⟨"SharerHomeModel", "sendWith", "(IIIIIII)V"⟩ : Jvm.MethodName) (⟨"SharerHomeModel", "sendWith", "(IIIIIII)V"⟩ : Jvm.MethodName)) ∈ zB := zB_mem (List.mem_of_getElem? (i := 27) rfl) rfl
theorem se_M_move : (Jvm.Cond.selects "SharerHomeModel" (⟨"SharerHomeModel", "move", "(I)I"⟩ : Jvm.MethodName) (⟨"SharerHomeModel", "move", "(I)I"⟩ : Jvm.MethodName)) ∈ zB := zB_mem (List.mem_of_getElem? (i := 28) rfl) rfl
theorem se_M_keptBack : (Jvm.Cond.selects "SharerHomeModel" (⟨"SharerHomeModel", "keptBack", "(I)Z"⟩ : Jvm.MethodName) (⟨"SharerHomeModel", "keptBack", "(I)Z"⟩ : Jvm.MethodName)) ∈ zB := zB_mem (List.mem_of_getElem? (i := 29) rfl) rfl
theorem se_M_stalls : (Jvm.Cond.selects "SharerHomeModel" (⟨"SharerHomeModel", "stalls", "(I)Z"⟩ : Jvm.MethodName) (⟨"SharerHomeModel", "stalls", "(I)Z"⟩ : Jvm.MethodName)) ∈ zB := zB_mem (List.mem_of_getElem? (i := 30) rfl) rfl
theorem se_M_strike : (Jvm.Cond.selects "SharerHomeModel" (⟨"SharerHomeModel", "strike", "(I)V"⟩ : Jvm.MethodName) (⟨"SharerHomeModel", "strike", "(I)V"⟩ : Jvm.MethodName)) ∈ zB := zB_mem (List.mem_of_getElem? (i := 31) rfl) rfl
theorem se_M_toCore : (Jvm.Cond.selects "SharerHomeModel" (⟨"SharerHomeModel", "toCore", "(IIIIII)V"⟩ : Jvm.MethodName) (⟨"SharerHomeModel", "toCore", "(IIIIII)V"⟩ : Jvm.MethodName)) ∈ zB := zB_mem (List.mem_of_getElem? (i := 32) rfl) rfl
theorem se_M_acknowledged : (Jvm.Cond.selects "SharerHomeModel" (⟨"SharerHomeModel", "acknowledged", "(II)V"⟩ : Jvm.MethodName) (⟨"SharerHomeModel", "acknowledged", "(II)V"⟩ : Jvm.MethodName)) ∈ zB := zB_mem (List.mem_of_getElem? (i := 33) rfl) rfl
theorem se_M_toRead : (Jvm.Cond.selects "SharerHomeModel" (⟨"SharerHomeModel", "toRead", "(II)V"⟩ : Jvm.MethodName) (⟨"SharerHomeModel", "toRead", "(II)V"⟩ : Jvm.MethodName)) ∈ zB := zB_mem (List.mem_of_getElem? (i := 34) rfl) rfl
theorem se_M_toWrite : (Jvm.Cond.selects "SharerHomeModel" (⟨"SharerHomeModel", "toWrite", "(II)V"⟩ : Jvm.MethodName) (⟨"SharerHomeModel", "toWrite", "(II)V"⟩ : Jvm.MethodName)) ∈ zB := zB_mem (List.mem_of_getElem? (i := 35) rfl) rfl
theorem se_M_toLeave : (Jvm.Cond.selects "SharerHomeModel" (⟨"SharerHomeModel", "toLeave", "(IIII)V"⟩ : Jvm.MethodName) (⟨"SharerHomeModel", "toLeave", "(IIII)V"⟩ : Jvm.MethodName)) ∈ zB := zB_mem (List.mem_of_getElem? (i := 36) rfl) rfl
theorem in_L : (Jvm.Cond.initialized "SharerHomeLaw") ∈ zB := zB_mem (List.mem_of_getElem? (i := 37) rfl) rfl
theorem in_S : (Jvm.Cond.initialized "SharerHome") ∈ zB := zB_mem (List.mem_of_getElem? (i := 38) rfl) rfl
theorem in_A : (Jvm.Cond.initialized "SharerHome$Mail") ∈ zB := zB_mem (List.mem_of_getElem? (i := 39) rfl) rfl
theorem in_H : (Jvm.Cond.initialized "SharerHome$Home") ∈ zB := zB_mem (List.mem_of_getElem? (i := 40) rfl) rfl
theorem in_C : (Jvm.Cond.initialized "SharerHome$Core") ∈ zB := zB_mem (List.mem_of_getElem? (i := 41) rfl) rfl
theorem in_M : (Jvm.Cond.initialized "SharerHomeModel") ∈ zB := zB_mem (List.mem_of_getElem? (i := 42) rfl) rfl
theorem in_J : (Jvm.Cond.initialized "java/lang/Integer") ∈ zB := zB_mem (List.mem_of_getElem? (i := 43) rfl) rfl
theorem cl_L_7 : (Jvm.Cond.classLink "SharerHomeLaw" (7 : Nat) "SharerHome") ∈ zB := zB_mem (List.mem_of_getElem? (i := 44) rfl) rfl
theorem is_S : (Jvm.Cond.instantiable "SharerHome" (3 : Nat)) ∈ zB := zB_mem (List.mem_of_getElem? (i := 45) rfl) rfl
theorem ml_L_9 : (Jvm.Cond.methodLink "SharerHomeLaw" (9 : Nat) ({ cls := "SharerHome", name := "<init>", desc := "()V" } : Jvm.MethodName)) ∈ zB := zB_mem (List.mem_of_getElem? (i := 46) rfl) rfl
theorem im_S_init : (Jvm.Cond.instanceMethod ({ cls := "SharerHome", name := "<init>", desc := "()V" } : Jvm.MethodName)) ∈ zB := zB_mem (List.mem_of_getElem? (i := 47) rfl) rfl
theorem co_S_init : (Jvm.Cond.code ({ cls := "SharerHome", name := "<init>", desc := "()V" } : Jvm.MethodName) prog_1_method_1_code (2 : Nat) (Option.none : Option Jvm.ClassFile.FieldType)) ∈ zB := zB_mem (List.mem_of_getElem? (i := 48) rfl) rfl
theorem ml_S_1 : (Jvm.Cond.methodLink "SharerHome" (1 : Nat) ({ cls := "java/lang/Object", name := "<init>", desc := "()V" } : Jvm.MethodName)) ∈ zB := zB_mem (List.mem_of_getElem? (i := 49) rfl) rfl
theorem im_O_init : (Jvm.Cond.instanceMethod ({ cls := "java/lang/Object", name := "<init>", desc := "()V" } : Jvm.MethodName)) ∈ zB := zB_mem (List.mem_of_getElem? (i := 50) rfl) rfl
theorem co_O_init : (Jvm.Cond.code ({ cls := "java/lang/Object", name := "<init>", desc := "()V" } : Jvm.MethodName) object_method_1_code (1 : Nat) (Option.none : Option Jvm.ClassFile.FieldType)) ∈ zB := zB_mem (List.mem_of_getElem? (i := 51) rfl) rfl
theorem cl_S_7 : (Jvm.Cond.classLink "SharerHome" (7 : Nat) "SharerHome$Mail") ∈ zB := zB_mem (List.mem_of_getElem? (i := 52) rfl) rfl
theorem is_A : (Jvm.Cond.instantiable "SharerHome$Mail" (3 : Nat)) ∈ zB := zB_mem (List.mem_of_getElem? (i := 53) rfl) rfl
theorem mn_S_9 : (Jvm.Cond.methodLinkNest "SharerHome" (9 : Nat) ({ cls := "SharerHome$Mail", name := "<init>", desc := "()V" } : Jvm.MethodName) "SharerHome") ∈ zNw := List.mem_filter.mpr ⟨List.mem_of_getElem? (i := 54) rfl, rfl⟩
theorem im_A_init : (Jvm.Cond.instanceMethod ({ cls := "SharerHome$Mail", name := "<init>", desc := "()V" } : Jvm.MethodName)) ∈ zB := zB_mem (List.mem_of_getElem? (i := 55) rfl) rfl
theorem co_A_init : (Jvm.Cond.code ({ cls := "SharerHome$Mail", name := "<init>", desc := "()V" } : Jvm.MethodName) prog_4_method_1_code (1 : Nat) (Option.none : Option Jvm.ClassFile.FieldType)) ∈ zB := zB_mem (List.mem_of_getElem? (i := 56) rfl) rfl
theorem ml_A_3 : (Jvm.Cond.methodLink "SharerHome$Mail" (3 : Nat) ({ cls := "java/lang/Object", name := "<init>", desc := "()V" } : Jvm.MethodName)) ∈ zB := zB_mem (List.mem_of_getElem? (i := 57) rfl) rfl
theorem cl_A_11 : (Jvm.Cond.classLink "SharerHome$Mail" (11 : Nat) "[[I") ∈ zB := zB_mem (List.mem_of_getElem? (i := 58) rfl) rfl
theorem ao_array : (Jvm.Cond.arrayOver (Jvm.ClassFile.FieldType.array Jvm.ClassFile.FieldType.int)) ∈ lw_tbl := List.mem_of_getElem? (i := 59) rfl
theorem fl_A_13 : (Jvm.Cond.fieldLink "SharerHome$Mail" (13 : Nat) "SharerHome$Mail" "parts" "[[I") ∈ zB := zB_mem (List.mem_of_getElem? (i := 60) rfl) rfl
theorem fl_A_16 : (Jvm.Cond.fieldLink "SharerHome$Mail" (16 : Nat) "SharerHome$Mail" "tallies" "[[I") ∈ zB := zB_mem (List.mem_of_getElem? (i := 61) rfl) rfl
theorem fn_S_97 : (Jvm.Cond.fieldLinkNest "SharerHome" (97 : Nat) "SharerHome$Mail" "tallies" "[[I" "SharerHome") ∈ zNw := List.mem_filter.mpr ⟨List.mem_of_getElem? (i := 62) rfl, rfl⟩
theorem fl_A_19 : (Jvm.Cond.fieldLink "SharerHome$Mail" (19 : Nat) "SharerHome$Mail" "count" "I") ∈ zB := zB_mem (List.mem_of_getElem? (i := 63) rfl) rfl
theorem fn_S_57 : (Jvm.Cond.fieldLinkNest "SharerHome" (57 : Nat) "SharerHome$Mail" "count" "I" "SharerHome") ∈ zNw := List.mem_filter.mpr ⟨List.mem_of_getElem? (i := 64) rfl, rfl⟩
theorem ac_int : (Jvm.Cond.arrayClass Jvm.ClassFile.FieldType.int) ∈ zB := zB_mem (List.mem_of_getElem? (i := 72) rfl) rfl
theorem cl_S_16 : (Jvm.Cond.classLink "SharerHome" (16 : Nat) "SharerHome$Home") ∈ zB := zB_mem (List.mem_of_getElem? (i := 73) rfl) rfl
theorem is_H : (Jvm.Cond.instantiable "SharerHome$Home" (5 : Nat)) ∈ zB := zB_mem (List.mem_of_getElem? (i := 74) rfl) rfl
theorem ml_S_18 : (Jvm.Cond.methodLink "SharerHome" (18 : Nat) ({ cls := "SharerHome$Home", name := "<init>", desc := "(LSharerHome$Mail;)V" } : Jvm.MethodName)) ∈ zB := zB_mem (List.mem_of_getElem? (i := 75) rfl) rfl
theorem im_H_init : (Jvm.Cond.instanceMethod ({ cls := "SharerHome$Home", name := "<init>", desc := "(LSharerHome$Mail;)V" } : Jvm.MethodName)) ∈ zB := zB_mem (List.mem_of_getElem? (i := 76) rfl) rfl
theorem co_H_init : (Jvm.Cond.code ({ cls := "SharerHome$Home", name := "<init>", desc := "(LSharerHome$Mail;)V" } : Jvm.MethodName) prog_3_method_1_code (2 : Nat) (Option.none : Option Jvm.ClassFile.FieldType)) ∈ zB := zB_mem (List.mem_of_getElem? (i := 77) rfl) rfl
theorem ml_H_3 : (Jvm.Cond.methodLink "SharerHome$Home" (3 : Nat) ({ cls := "java/lang/Object", name := "<init>", desc := "()V" } : Jvm.MethodName)) ∈ zB := zB_mem (List.mem_of_getElem? (i := 78) rfl) rfl
theorem fl_H_24 : (Jvm.Cond.fieldLink "SharerHome$Home" (24 : Nat) "SharerHome$Home" "mail" "LSharerHome$Mail;") ∈ zB := zB_mem (List.mem_of_getElem? (i := 79) rfl) rfl
theorem fl_H_9 : (Jvm.Cond.fieldLink "SharerHome$Home" (9 : Nat) "SharerHome$Home" "memories" "[I") ∈ zB := zB_mem (List.mem_of_getElem? (i := 80) rfl) rfl
theorem fn_S_81 : (Jvm.Cond.fieldLinkNest "SharerHome" (81 : Nat) "SharerHome$Home" "memories" "[I" "SharerHome") ∈ zNw := List.mem_filter.mpr ⟨List.mem_of_getElem? (i := 81) rfl, rfl⟩
theorem fl_H_15 : (Jvm.Cond.fieldLink "SharerHome$Home" (15 : Nat) "SharerHome$Home" "keepings" "[I") ∈ zB := zB_mem (List.mem_of_getElem? (i := 82) rfl) rfl
theorem fl_H_18 : (Jvm.Cond.fieldLink "SharerHome$Home" (18 : Nat) "SharerHome$Home" "owners" "[I") ∈ zB := zB_mem (List.mem_of_getElem? (i := 83) rfl) rfl
theorem fl_H_21 : (Jvm.Cond.fieldLink "SharerHome$Home" (21 : Nat) "SharerHome$Home" "sharers" "[I") ∈ zB := zB_mem (List.mem_of_getElem? (i := 84) rfl) rfl
theorem cl_S_25 : (Jvm.Cond.classLink "SharerHome" (25 : Nat) "SharerHome$Core") ∈ zB := zB_mem (List.mem_of_getElem? (i := 96) rfl) rfl
theorem ao_object : (Jvm.Cond.arrayOver (Jvm.ClassFile.FieldType.object "SharerHome$Core")) ∈ lw_tbl := List.mem_of_getElem? (i := 97) rfl
theorem is_C : (Jvm.Cond.instantiable "SharerHome$Core" (10 : Nat)) ∈ zB := zB_mem (List.mem_of_getElem? (i := 98) rfl) rfl
theorem ml_S_31 : (Jvm.Cond.methodLink "SharerHome" (31 : Nat) ({ cls := "SharerHome$Core", name := "<init>", desc := "(ILSharerHome$Mail;)V" } : Jvm.MethodName)) ∈ zB := zB_mem (List.mem_of_getElem? (i := 99) rfl) rfl
theorem im_C_init : (Jvm.Cond.instanceMethod ({ cls := "SharerHome$Core", name := "<init>", desc := "(ILSharerHome$Mail;)V" } : Jvm.MethodName)) ∈ zB := zB_mem (List.mem_of_getElem? (i := 100) rfl) rfl
theorem co_C_init : (Jvm.Cond.code ({ cls := "SharerHome$Core", name := "<init>", desc := "(ILSharerHome$Mail;)V" } : Jvm.MethodName) prog_2_method_1_code (3 : Nat) (Option.none : Option Jvm.ClassFile.FieldType)) ∈ zB := zB_mem (List.mem_of_getElem? (i := 101) rfl) rfl
theorem ml_C_3 : (Jvm.Cond.methodLink "SharerHome$Core" (3 : Nat) ({ cls := "java/lang/Object", name := "<init>", desc := "()V" } : Jvm.MethodName)) ∈ zB := zB_mem (List.mem_of_getElem? (i := 102) rfl) rfl
theorem fl_C_38 : (Jvm.Cond.fieldLink "SharerHome$Core" (38 : Nat) "SharerHome$Core" "self" "I") ∈ zB := zB_mem (List.mem_of_getElem? (i := 103) rfl) rfl
theorem fl_C_41 : (Jvm.Cond.fieldLink "SharerHome$Core" (41 : Nat) "SharerHome$Core" "mail" "LSharerHome$Mail;") ∈ zB := zB_mem (List.mem_of_getElem? (i := 104) rfl) rfl
theorem fl_C_9 : (Jvm.Cond.fieldLink "SharerHome$Core" (9 : Nat) "SharerHome$Core" "states" "[I") ∈ zB := zB_mem (List.mem_of_getElem? (i := 105) rfl) rfl
theorem fn_S_65 : (Jvm.Cond.fieldLinkNest "SharerHome" (65 : Nat) "SharerHome$Core" "states" "[I" "SharerHome") ∈ zNw := List.mem_filter.mpr ⟨List.mem_of_getElem? (i := 106) rfl, rfl⟩
theorem fl_C_15 : (Jvm.Cond.fieldLink "SharerHome$Core" (15 : Nat) "SharerHome$Core" "values" "[I") ∈ zB := zB_mem (List.mem_of_getElem? (i := 107) rfl) rfl
theorem fl_C_18 : (Jvm.Cond.fieldLink "SharerHome$Core" (18 : Nat) "SharerHome$Core" "owed" "[I") ∈ zB := zB_mem (List.mem_of_getElem? (i := 108) rfl) rfl
theorem fl_C_21 : (Jvm.Cond.fieldLink "SharerHome$Core" (21 : Nat) "SharerHome$Core" "waiting" "Z") ∈ zB := zB_mem (List.mem_of_getElem? (i := 109) rfl) rfl
theorem fn_S_87 : (Jvm.Cond.fieldLinkNest "SharerHome" (87 : Nat) "SharerHome$Core" "waiting" "Z" "SharerHome") ∈ zNw := List.mem_filter.mpr ⟨List.mem_of_getElem? (i := 110) rfl, rfl⟩
theorem fl_C_25 : (Jvm.Cond.fieldLink "SharerHome$Core" (25 : Nat) "SharerHome$Core" "operation" "I") ∈ zB := zB_mem (List.mem_of_getElem? (i := 111) rfl) rfl
theorem fl_C_29 : (Jvm.Cond.fieldLink "SharerHome$Core" (29 : Nat) "SharerHome$Core" "operand" "I") ∈ zB := zB_mem (List.mem_of_getElem? (i := 112) rfl) rfl
theorem fl_C_32 : (Jvm.Cond.fieldLink "SharerHome$Core" (32 : Nat) "SharerHome$Core" "finished" "I") ∈ zB := zB_mem (List.mem_of_getElem? (i := 113) rfl) rfl
theorem fn_S_91 : (Jvm.Cond.fieldLinkNest "SharerHome" (91 : Nat) "SharerHome$Core" "finished" "I" "SharerHome") ∈ zNw := List.mem_filter.mpr ⟨List.mem_of_getElem? (i := 114) rfl, rfl⟩
theorem fl_C_35 : (Jvm.Cond.fieldLink "SharerHome$Core" (35 : Nat) "SharerHome$Core" "latestResult" "I") ∈ zB := zB_mem (List.mem_of_getElem? (i := 115) rfl) rfl
theorem fn_S_94 : (Jvm.Cond.fieldLinkNest "SharerHome" (94 : Nat) "SharerHome$Core" "latestResult" "I" "SharerHome") ∈ zNw := List.mem_filter.mpr ⟨List.mem_of_getElem? (i := 116) rfl, rfl⟩
theorem fl_S_10 : (Jvm.Cond.fieldLink "SharerHome" (10 : Nat) "SharerHome" "mail" "LSharerHome$Mail;") ∈ zB := zB_mem (List.mem_of_getElem? (i := 138) rfl) rfl
theorem fl_S_27 : (Jvm.Cond.fieldLink "SharerHome" (27 : Nat) "SharerHome" "cores" "[LSharerHome$Core;") ∈ zB := zB_mem (List.mem_of_getElem? (i := 139) rfl) rfl
theorem fl_S_21 : (Jvm.Cond.fieldLink "SharerHome" (21 : Nat) "SharerHome" "home" "LSharerHome$Home;") ∈ zB := zB_mem (List.mem_of_getElem? (i := 140) rfl) rfl
theorem ml_L_13 : (Jvm.Cond.methodLink "SharerHomeLaw" (13 : Nat) ({ cls := "SharerHome", name := "load", desc := "(II)I" } : Jvm.MethodName)) ∈ zB := zB_mem (List.mem_of_getElem? (i := 148) rfl) rfl
theorem im_S_load : (Jvm.Cond.instanceMethod ({ cls := "SharerHome", name := "load", desc := "(II)I" } : Jvm.MethodName)) ∈ zB := zB_mem (List.mem_of_getElem? (i := 149) rfl) rfl
theorem se_S_load : (Jvm.Cond.selects "SharerHome" ({ cls := "SharerHome", name := "load", desc := "(II)I" } : Jvm.MethodName) ({ cls := "SharerHome", name := "load", desc := "(II)I" } : Jvm.MethodName)) ∈ zB := zB_mem (List.mem_of_getElem? (i := 150) rfl) rfl
theorem co_S_load : (Jvm.Cond.code ({ cls := "SharerHome", name := "load", desc := "(II)I" } : Jvm.MethodName) prog_1_method_2_code (3 : Nat) (Option.some Jvm.ClassFile.FieldType.int)) ∈ zB := zB_mem (List.mem_of_getElem? (i := 151) rfl) rfl
theorem ml_S_34 : (Jvm.Cond.methodLink "SharerHome" (34 : Nat) ({ cls := "SharerHome", name := "isCopy", desc := "(II)Z" } : Jvm.MethodName)) ∈ zB := zB_mem (List.mem_of_getElem? (i := 152) rfl) rfl
theorem sc_S_isCopy : (Jvm.Cond.static ({ cls := "SharerHome", name := "isCopy", desc := "(II)Z" } : Jvm.MethodName)) ∈ zB := zB_mem (List.mem_of_getElem? (i := 153) rfl) rfl
theorem co_S_isCopy : (Jvm.Cond.code ({ cls := "SharerHome", name := "isCopy", desc := "(II)Z" } : Jvm.MethodName) prog_1_method_21_code (2 : Nat) (Option.some Jvm.ClassFile.FieldType.boolean)) ∈ zB := zB_mem (List.mem_of_getElem? (i := 154) rfl) rfl
theorem ml_S_84 : (Jvm.Cond.methodLink "SharerHome" (84 : Nat) ({ cls := "SharerHome", name := "isCore", desc := "(I)Z" } : Jvm.MethodName)) ∈ zB := zB_mem (List.mem_of_getElem? (i := 155) rfl) rfl
theorem sc_S_isCore : (Jvm.Cond.static ({ cls := "SharerHome", name := "isCore", desc := "(I)Z" } : Jvm.MethodName)) ∈ zB := zB_mem (List.mem_of_getElem? (i := 156) rfl) rfl
theorem co_S_isCore : (Jvm.Cond.code ({ cls := "SharerHome", name := "isCore", desc := "(I)Z" } : Jvm.MethodName) prog_1_method_19_code (1 : Nat) (Option.some Jvm.ClassFile.FieldType.boolean)) ∈ zB := zB_mem (List.mem_of_getElem? (i := 157) rfl) rfl
theorem ml_S_75 : (Jvm.Cond.methodLink "SharerHome" (75 : Nat) ({ cls := "SharerHome", name := "isLine", desc := "(I)Z" } : Jvm.MethodName)) ∈ zB := zB_mem (List.mem_of_getElem? (i := 158) rfl) rfl
theorem sc_S_isLine : (Jvm.Cond.static ({ cls := "SharerHome", name := "isLine", desc := "(I)Z" } : Jvm.MethodName)) ∈ zB := zB_mem (List.mem_of_getElem? (i := 159) rfl) rfl
theorem co_S_isLine : (Jvm.Cond.code ({ cls := "SharerHome", name := "isLine", desc := "(I)Z" } : Jvm.MethodName) prog_1_method_20_code (1 : Nat) (Option.some Jvm.ClassFile.FieldType.boolean)) ∈ zB := zB_mem (List.mem_of_getElem? (i := 160) rfl) rfl
theorem ml_S_38 : (Jvm.Cond.methodLink "SharerHome" (38 : Nat) ({ cls := "SharerHome$Core", name := "start", desc := "(III)I" } : Jvm.MethodName)) ∈ zB := zB_mem (List.mem_of_getElem? (i := 161) rfl) rfl
theorem im_C_start : (Jvm.Cond.instanceMethod ({ cls := "SharerHome$Core", name := "start", desc := "(III)I" } : Jvm.MethodName)) ∈ zB := zB_mem (List.mem_of_getElem? (i := 162) rfl) rfl
theorem se_C_start : (Jvm.Cond.selects "SharerHome$Core" ({ cls := "SharerHome$Core", name := "start", desc := "(III)I" } : Jvm.MethodName) ({ cls := "SharerHome$Core", name := "start", desc := "(III)I" } : Jvm.MethodName)) ∈ zB := zB_mem (List.mem_of_getElem? (i := 163) rfl) rfl
theorem co_C_start : (Jvm.Cond.code ({ cls := "SharerHome$Core", name := "start", desc := "(III)I" } : Jvm.MethodName) prog_2_method_2_code (4 : Nat) (Option.some Jvm.ClassFile.FieldType.int)) ∈ zB := zB_mem (List.mem_of_getElem? (i := 164) rfl) rfl
theorem ml_C_45 : (Jvm.Cond.methodLink "SharerHome$Core" (45 : Nat) ({ cls := "SharerHome$Core", name := "isStill", desc := "(I)Z" } : Jvm.MethodName)) ∈ zB := zB_mem (List.mem_of_getElem? (i := 165) rfl) rfl
theorem im_C_isStill : (Jvm.Cond.instanceMethod ({ cls := "SharerHome$Core", name := "isStill", desc := "(I)Z" } : Jvm.MethodName)) ∈ zB := zB_mem (List.mem_of_getElem? (i := 167) rfl) rfl
theorem co_C_isStill : (Jvm.Cond.code ({ cls := "SharerHome$Core", name := "isStill", desc := "(I)Z" } : Jvm.MethodName) prog_2_method_8_code (2 : Nat) (Option.some Jvm.ClassFile.FieldType.boolean)) ∈ zB := zB_mem (List.mem_of_getElem? (i := 168) rfl) rfl
theorem ml_C_49 : (Jvm.Cond.methodLink "SharerHome$Core" (49 : Nat) ({ cls := "SharerHome$Core", name := "isEnough", desc := "(I)Z" } : Jvm.MethodName)) ∈ zB := zB_mem (List.mem_of_getElem? (i := 169) rfl) rfl
theorem im_C_isEnough : (Jvm.Cond.instanceMethod ({ cls := "SharerHome$Core", name := "isEnough", desc := "(I)Z" } : Jvm.MethodName)) ∈ zB := zB_mem (List.mem_of_getElem? (i := 171) rfl) rfl
theorem co_C_isEnough : (Jvm.Cond.code ({ cls := "SharerHome$Core", name := "isEnough", desc := "(I)Z" } : Jvm.MethodName) prog_2_method_9_code (2 : Nat) (Option.some Jvm.ClassFile.FieldType.boolean)) ∈ zB := zB_mem (List.mem_of_getElem? (i := 172) rfl) rfl
theorem ml_C_52 : (Jvm.Cond.methodLink "SharerHome$Core" (52 : Nat) ({ cls := "SharerHome$Core", name := "finish", desc := "(I)V" } : Jvm.MethodName)) ∈ zB := zB_mem (List.mem_of_getElem? (i := 173) rfl) rfl
theorem im_C_finish : (Jvm.Cond.instanceMethod ({ cls := "SharerHome$Core", name := "finish", desc := "(I)V" } : Jvm.MethodName)) ∈ zB := zB_mem (List.mem_of_getElem? (i := 175) rfl) rfl
theorem co_C_finish : (Jvm.Cond.code ({ cls := "SharerHome$Core", name := "finish", desc := "(I)V" } : Jvm.MethodName) prog_2_method_19_code (3 : Nat) (Option.none : Option Jvm.ClassFile.FieldType)) ∈ zB := zB_mem (List.mem_of_getElem? (i := 176) rfl) rfl
theorem ml_C_96 : (Jvm.Cond.methodLink "SharerHome$Core" (96 : Nat) ({ cls := "SharerHome$Core", name := "change", desc := "(II)V" } : Jvm.MethodName)) ∈ zB := zB_mem (List.mem_of_getElem? (i := 177) rfl) rfl
theorem im_C_change : (Jvm.Cond.instanceMethod ({ cls := "SharerHome$Core", name := "change", desc := "(II)V" } : Jvm.MethodName)) ∈ zB := zB_mem (List.mem_of_getElem? (i := 179) rfl) rfl
theorem co_C_change : (Jvm.Cond.code ({ cls := "SharerHome$Core", name := "change", desc := "(II)V" } : Jvm.MethodName) prog_2_method_20_code (3 : Nat) (Option.none : Option Jvm.ClassFile.FieldType)) ∈ zB := zB_mem (List.mem_of_getElem? (i := 180) rfl) rfl
theorem ml_C_56 : (Jvm.Cond.methodLink "SharerHome$Core" (56 : Nat) ({ cls := "SharerHome$Core", name := "request", desc := "(I)V" } : Jvm.MethodName)) ∈ zB := zB_mem (List.mem_of_getElem? (i := 181) rfl) rfl
theorem im_C_request : (Jvm.Cond.instanceMethod ({ cls := "SharerHome$Core", name := "request", desc := "(I)V" } : Jvm.MethodName)) ∈ zB := zB_mem (List.mem_of_getElem? (i := 183) rfl) rfl
theorem co_C_request : (Jvm.Cond.code ({ cls := "SharerHome$Core", name := "request", desc := "(I)V" } : Jvm.MethodName) prog_2_method_10_code (2 : Nat) (Option.none : Option Jvm.ClassFile.FieldType)) ∈ zB := zB_mem (List.mem_of_getElem? (i := 184) rfl) rfl
theorem ml_C_86 : (Jvm.Cond.methodLink "SharerHome$Core" (86 : Nat) ({ cls := "SharerHome$Mail", name := "send", desc := "(IIIIIII)V" } : Jvm.MethodName)) ∈ zB := zB_mem (List.mem_of_getElem? (i := 185) rfl) rfl
theorem im_A_send : (Jvm.Cond.instanceMethod ({ cls := "SharerHome$Mail", name := "send", desc := "(IIIIIII)V" } : Jvm.MethodName)) ∈ zB := zB_mem (List.mem_of_getElem? (i := 186) rfl) rfl
theorem se_A_send : (Jvm.Cond.selects "SharerHome$Mail" ({ cls := "SharerHome$Mail", name := "send", desc := "(IIIIIII)V" } : Jvm.MethodName) ({ cls := "SharerHome$Mail", name := "send", desc := "(IIIIIII)V" } : Jvm.MethodName)) ∈ zB := zB_mem (List.mem_of_getElem? (i := 187) rfl) rfl
theorem co_A_send : (Jvm.Cond.code ({ cls := "SharerHome$Mail", name := "send", desc := "(IIIIIII)V" } : Jvm.MethodName) prog_4_method_4_code (8 : Nat) (Option.none : Option Jvm.ClassFile.FieldType)) ∈ zB := zB_mem (List.mem_of_getElem? (i := 188) rfl) rfl
theorem ml_L_18 : (Jvm.Cond.methodLink "SharerHomeLaw" (18 : Nat) ({ cls := "SharerHome", name := "store", desc := "(III)I" } : Jvm.MethodName)) ∈ zB := zB_mem (List.mem_of_getElem? (i := 189) rfl) rfl
theorem im_S_store : (Jvm.Cond.instanceMethod ({ cls := "SharerHome", name := "store", desc := "(III)I" } : Jvm.MethodName)) ∈ zB := zB_mem (List.mem_of_getElem? (i := 190) rfl) rfl
theorem se_S_store : (Jvm.Cond.selects "SharerHome" ({ cls := "SharerHome", name := "store", desc := "(III)I" } : Jvm.MethodName) ({ cls := "SharerHome", name := "store", desc := "(III)I" } : Jvm.MethodName)) ∈ zB := zB_mem (List.mem_of_getElem? (i := 191) rfl) rfl
theorem co_S_store : (Jvm.Cond.code ({ cls := "SharerHome", name := "store", desc := "(III)I" } : Jvm.MethodName) prog_1_method_3_code (4 : Nat) (Option.some Jvm.ClassFile.FieldType.int)) ∈ zB := zB_mem (List.mem_of_getElem? (i := 192) rfl) rfl
theorem ml_L_23 : (Jvm.Cond.methodLink "SharerHomeLaw" (23 : Nat) ({ cls := "SharerHome", name := "add", desc := "(III)I" } : Jvm.MethodName)) ∈ zB := zB_mem (List.mem_of_getElem? (i := 193) rfl) rfl
theorem im_S_add : (Jvm.Cond.instanceMethod ({ cls := "SharerHome", name := "add", desc := "(III)I" } : Jvm.MethodName)) ∈ zB := zB_mem (List.mem_of_getElem? (i := 194) rfl) rfl
theorem se_S_add : (Jvm.Cond.selects "SharerHome" ({ cls := "SharerHome", name := "add", desc := "(III)I" } : Jvm.MethodName) ({ cls := "SharerHome", name := "add", desc := "(III)I" } : Jvm.MethodName)) ∈ zB := zB_mem (List.mem_of_getElem? (i := 195) rfl) rfl
theorem co_S_add : (Jvm.Cond.code ({ cls := "SharerHome", name := "add", desc := "(III)I" } : Jvm.MethodName) prog_1_method_4_code (4 : Nat) (Option.some Jvm.ClassFile.FieldType.int)) ∈ zB := zB_mem (List.mem_of_getElem? (i := 196) rfl) rfl
theorem ml_L_27 : (Jvm.Cond.methodLink "SharerHomeLaw" (27 : Nat) ({ cls := "SharerHome", name := "leave", desc := "(II)I" } : Jvm.MethodName)) ∈ zB := zB_mem (List.mem_of_getElem? (i := 197) rfl) rfl
theorem im_S_leave : (Jvm.Cond.instanceMethod ({ cls := "SharerHome", name := "leave", desc := "(II)I" } : Jvm.MethodName)) ∈ zB := zB_mem (List.mem_of_getElem? (i := 198) rfl) rfl
theorem se_S_leave : (Jvm.Cond.selects "SharerHome" ({ cls := "SharerHome", name := "leave", desc := "(II)I" } : Jvm.MethodName) ({ cls := "SharerHome", name := "leave", desc := "(II)I" } : Jvm.MethodName)) ∈ zB := zB_mem (List.mem_of_getElem? (i := 199) rfl) rfl
theorem co_S_leave : (Jvm.Cond.code ({ cls := "SharerHome", name := "leave", desc := "(II)I" } : Jvm.MethodName) prog_1_method_5_code (3 : Nat) (Option.some Jvm.ClassFile.FieldType.int)) ∈ zB := zB_mem (List.mem_of_getElem? (i := 200) rfl) rfl
set_option maxRecDepth 100000 in
theorem ml_S_42 : (Jvm.Cond.methodLink "SharerHome" (42 : Nat) ({ cls := "SharerHome$Core", name := "giveUp", desc := "(I)I" } : Jvm.MethodName)) ∈ zB := zB_mem (List.mem_of_getElem? (i := 201) rfl) rfl
set_option maxRecDepth 100000 in
theorem im_C_giveUp : (Jvm.Cond.instanceMethod ({ cls := "SharerHome$Core", name := "giveUp", desc := "(I)I" } : Jvm.MethodName)) ∈ zB := zB_mem (List.mem_of_getElem? (i := 202) rfl) rfl
set_option maxRecDepth 100000 in
theorem se_C_giveUp : (Jvm.Cond.selects "SharerHome$Core" ({ cls := "SharerHome$Core", name := "giveUp", desc := "(I)I" } : Jvm.MethodName) ({ cls := "SharerHome$Core", name := "giveUp", desc := "(I)I" } : Jvm.MethodName)) ∈ zB := zB_mem (List.mem_of_getElem? (i := 203) rfl) rfl
set_option maxRecDepth 100000 in
theorem co_C_giveUp : (Jvm.Cond.code ({ cls := "SharerHome$Core", name := "giveUp", desc := "(I)I" } : Jvm.MethodName) prog_2_method_3_code (2 : Nat) (Option.some Jvm.ClassFile.FieldType.int)) ∈ zB := zB_mem (List.mem_of_getElem? (i := 204) rfl) rfl
set_option maxRecDepth 100000 in
theorem ml_C_59 : (Jvm.Cond.methodLink "SharerHome$Core" (59 : Nat) ({ cls := "SharerHome$Core", name := "sendLeave", desc := "(IIII)V" } : Jvm.MethodName)) ∈ zB := zB_mem (List.mem_of_getElem? (i := 205) rfl) rfl
set_option maxRecDepth 100000 in
theorem im_C_sendLeave : (Jvm.Cond.instanceMethod ({ cls := "SharerHome$Core", name := "sendLeave", desc := "(IIII)V" } : Jvm.MethodName)) ∈ zB := zB_mem (List.mem_of_getElem? (i := 207) rfl) rfl
set_option maxRecDepth 100000 in
theorem co_C_sendLeave : (Jvm.Cond.code ({ cls := "SharerHome$Core", name := "sendLeave", desc := "(IIII)V" } : Jvm.MethodName) prog_2_method_11_code (5 : Nat) (Option.none : Option Jvm.ClassFile.FieldType)) ∈ zB := zB_mem (List.mem_of_getElem? (i := 208) rfl) rfl
set_option maxRecDepth 100000 in
theorem ml_L_31 : (Jvm.Cond.methodLink "SharerHomeLaw" (31 : Nat) ({ cls := "SharerHome", name := "deliver", desc := "(I)I" } : Jvm.MethodName)) ∈ zB := zB_mem (List.mem_of_getElem? (i := 209) rfl) rfl
set_option maxRecDepth 100000 in
theorem im_S_deliver : (Jvm.Cond.instanceMethod ({ cls := "SharerHome", name := "deliver", desc := "(I)I" } : Jvm.MethodName)) ∈ zB := zB_mem (List.mem_of_getElem? (i := 210) rfl) rfl
set_option maxRecDepth 100000 in
theorem se_S_deliver : (Jvm.Cond.selects "SharerHome" ({ cls := "SharerHome", name := "deliver", desc := "(I)I" } : Jvm.MethodName) ({ cls := "SharerHome", name := "deliver", desc := "(I)I" } : Jvm.MethodName)) ∈ zB := zB_mem (List.mem_of_getElem? (i := 211) rfl) rfl
set_option maxRecDepth 100000 in
theorem co_S_deliver : (Jvm.Cond.code ({ cls := "SharerHome", name := "deliver", desc := "(I)I" } : Jvm.MethodName) prog_1_method_6_code (3 : Nat) (Option.some Jvm.ClassFile.FieldType.int)) ∈ zB := zB_mem (List.mem_of_getElem? (i := 212) rfl) rfl
set_option maxRecDepth 100000 in
theorem ml_S_46 : (Jvm.Cond.methodLink "SharerHome" (46 : Nat) ({ cls := "SharerHome$Mail", name := "has", desc := "(I)Z" } : Jvm.MethodName)) ∈ zB := zB_mem (List.mem_of_getElem? (i := 213) rfl) rfl
set_option maxRecDepth 100000 in
theorem im_A_has : (Jvm.Cond.instanceMethod ({ cls := "SharerHome$Mail", name := "has", desc := "(I)Z" } : Jvm.MethodName)) ∈ zB := zB_mem (List.mem_of_getElem? (i := 214) rfl) rfl
set_option maxRecDepth 100000 in
theorem se_A_has : (Jvm.Cond.selects "SharerHome$Mail" ({ cls := "SharerHome$Mail", name := "has", desc := "(I)Z" } : Jvm.MethodName) ({ cls := "SharerHome$Mail", name := "has", desc := "(I)Z" } : Jvm.MethodName)) ∈ zB := zB_mem (List.mem_of_getElem? (i := 215) rfl) rfl
set_option maxRecDepth 100000 in
theorem co_A_has : (Jvm.Cond.code ({ cls := "SharerHome$Mail", name := "has", desc := "(I)Z" } : Jvm.MethodName) prog_4_method_2_code (2 : Nat) (Option.some Jvm.ClassFile.FieldType.boolean)) ∈ zB := zB_mem (List.mem_of_getElem? (i := 216) rfl) rfl
set_option maxRecDepth 100000 in
theorem ml_S_50 : (Jvm.Cond.methodLink "SharerHome" (50 : Nat) ({ cls := "SharerHome", name := "fateOf", desc := "(I)I" } : Jvm.MethodName)) ∈ zB := zB_mem (List.mem_of_getElem? (i := 217) rfl) rfl
set_option maxRecDepth 100000 in
theorem im_S_fateOf : (Jvm.Cond.instanceMethod ({ cls := "SharerHome", name := "fateOf", desc := "(I)I" } : Jvm.MethodName)) ∈ zB := zB_mem (List.mem_of_getElem? (i := 219) rfl) rfl
set_option maxRecDepth 100000 in
theorem co_S_fateOf : (Jvm.Cond.code ({ cls := "SharerHome", name := "fateOf", desc := "(I)I" } : Jvm.MethodName) prog_1_method_23_code (2 : Nat) (Option.some Jvm.ClassFile.FieldType.int)) ∈ zB := zB_mem (List.mem_of_getElem? (i := 220) rfl) rfl
set_option maxRecDepth 100000 in
theorem ml_S_105 : (Jvm.Cond.methodLink "SharerHome" (105 : Nat) ({ cls := "SharerHome$Mail", name := "keepsBack", desc := "(I)Z" } : Jvm.MethodName)) ∈ zB := zB_mem (List.mem_of_getElem? (i := 221) rfl) rfl
set_option maxRecDepth 100000 in
theorem im_A_keepsBack : (Jvm.Cond.instanceMethod ({ cls := "SharerHome$Mail", name := "keepsBack", desc := "(I)Z" } : Jvm.MethodName)) ∈ zB := zB_mem (List.mem_of_getElem? (i := 222) rfl) rfl
set_option maxRecDepth 100000 in
theorem se_A_keepsBack : (Jvm.Cond.selects "SharerHome$Mail" ({ cls := "SharerHome$Mail", name := "keepsBack", desc := "(I)Z" } : Jvm.MethodName) ({ cls := "SharerHome$Mail", name := "keepsBack", desc := "(I)Z" } : Jvm.MethodName)) ∈ zB := zB_mem (List.mem_of_getElem? (i := 223) rfl) rfl
set_option maxRecDepth 100000 in
theorem co_A_keepsBack : (Jvm.Cond.code ({ cls := "SharerHome$Mail", name := "keepsBack", desc := "(I)Z" } : Jvm.MethodName) prog_4_method_6_code (3 : Nat) (Option.some Jvm.ClassFile.FieldType.boolean)) ∈ zB := zB_mem (List.mem_of_getElem? (i := 224) rfl) rfl
set_option maxRecDepth 100000 in
theorem ml_A_23 : (Jvm.Cond.methodLink "SharerHome$Mail" (23 : Nat) ({ cls := "SharerHome$Mail", name := "isOrdered", desc := "(I)Z" } : Jvm.MethodName)) ∈ zB := zB_mem (List.mem_of_getElem? (i := 225) rfl) rfl
set_option maxRecDepth 100000 in
theorem im_A_isOrdered : (Jvm.Cond.instanceMethod ({ cls := "SharerHome$Mail", name := "isOrdered", desc := "(I)Z" } : Jvm.MethodName)) ∈ zB := zB_mem (List.mem_of_getElem? (i := 227) rfl) rfl
set_option maxRecDepth 100000 in
theorem co_A_isOrdered : (Jvm.Cond.code ({ cls := "SharerHome$Mail", name := "isOrdered", desc := "(I)Z" } : Jvm.MethodName) prog_4_method_7_code (2 : Nat) (Option.some Jvm.ClassFile.FieldType.boolean)) ∈ zB := zB_mem (List.mem_of_getElem? (i := 228) rfl) rfl
set_option maxRecDepth 100000 in
theorem ml_S_108 : (Jvm.Cond.methodLink "SharerHome" (108 : Nat) ({ cls := "SharerHome", name := "isStalled", desc := "(I)Z" } : Jvm.MethodName)) ∈ zB := zB_mem (List.mem_of_getElem? (i := 229) rfl) rfl
set_option maxRecDepth 100000 in
theorem im_S_isStalled : (Jvm.Cond.instanceMethod ({ cls := "SharerHome", name := "isStalled", desc := "(I)Z" } : Jvm.MethodName)) ∈ zB := zB_mem (List.mem_of_getElem? (i := 231) rfl) rfl
set_option maxRecDepth 100000 in
theorem co_S_isStalled : (Jvm.Cond.code ({ cls := "SharerHome", name := "isStalled", desc := "(I)Z" } : Jvm.MethodName) prog_1_method_24_code (5 : Nat) (Option.some Jvm.ClassFile.FieldType.boolean)) ∈ zB := zB_mem (List.mem_of_getElem? (i := 232) rfl) rfl
set_option maxRecDepth 100000 in
theorem ml_S_61 : (Jvm.Cond.methodLink "SharerHome" (61 : Nat) ({ cls := "SharerHome$Mail", name := "part", desc := "(II)I" } : Jvm.MethodName)) ∈ zB := zB_mem (List.mem_of_getElem? (i := 233) rfl) rfl
set_option maxRecDepth 100000 in
theorem im_A_part : (Jvm.Cond.instanceMethod ({ cls := "SharerHome$Mail", name := "part", desc := "(II)I" } : Jvm.MethodName)) ∈ zB := zB_mem (List.mem_of_getElem? (i := 234) rfl) rfl
set_option maxRecDepth 100000 in
theorem se_A_part : (Jvm.Cond.selects "SharerHome$Mail" ({ cls := "SharerHome$Mail", name := "part", desc := "(II)I" } : Jvm.MethodName) ({ cls := "SharerHome$Mail", name := "part", desc := "(II)I" } : Jvm.MethodName)) ∈ zB := zB_mem (List.mem_of_getElem? (i := 235) rfl) rfl
set_option maxRecDepth 100000 in
theorem co_A_part : (Jvm.Cond.code ({ cls := "SharerHome$Mail", name := "part", desc := "(II)I" } : Jvm.MethodName) prog_4_method_3_code (3 : Nat) (Option.some Jvm.ClassFile.FieldType.int)) ∈ zB := zB_mem (List.mem_of_getElem? (i := 236) rfl) rfl
set_option maxRecDepth 100000 in
theorem ml_S_111 : (Jvm.Cond.methodLink "SharerHome" (111 : Nat) ({ cls := "SharerHome$Home", name := "stalls", desc := "(II)Z" } : Jvm.MethodName)) ∈ zB := zB_mem (List.mem_of_getElem? (i := 237) rfl) rfl
set_option maxRecDepth 100000 in
theorem im_H_stalls : (Jvm.Cond.instanceMethod ({ cls := "SharerHome$Home", name := "stalls", desc := "(II)Z" } : Jvm.MethodName)) ∈ zB := zB_mem (List.mem_of_getElem? (i := 238) rfl) rfl
set_option maxRecDepth 100000 in
theorem se_H_stalls : (Jvm.Cond.selects "SharerHome$Home" ({ cls := "SharerHome$Home", name := "stalls", desc := "(II)Z" } : Jvm.MethodName) ({ cls := "SharerHome$Home", name := "stalls", desc := "(II)Z" } : Jvm.MethodName)) ∈ zB := zB_mem (List.mem_of_getElem? (i := 239) rfl) rfl
set_option maxRecDepth 100000 in
theorem co_H_stalls : (Jvm.Cond.code ({ cls := "SharerHome$Home", name := "stalls", desc := "(II)Z" } : Jvm.MethodName) prog_3_method_3_code (3 : Nat) (Option.some Jvm.ClassFile.FieldType.boolean)) ∈ zB := zB_mem (List.mem_of_getElem? (i := 240) rfl) rfl
set_option maxRecDepth 100000 in
theorem ml_S_114 : (Jvm.Cond.methodLink "SharerHome" (114 : Nat) ({ cls := "SharerHome$Core", name := "stalls", desc := "(II)Z" } : Jvm.MethodName)) ∈ zB := zB_mem (List.mem_of_getElem? (i := 241) rfl) rfl
set_option maxRecDepth 100000 in
theorem im_C_stalls : (Jvm.Cond.instanceMethod ({ cls := "SharerHome$Core", name := "stalls", desc := "(II)Z" } : Jvm.MethodName)) ∈ zB := zB_mem (List.mem_of_getElem? (i := 242) rfl) rfl
set_option maxRecDepth 100000 in
theorem se_C_stalls : (Jvm.Cond.selects "SharerHome$Core" ({ cls := "SharerHome$Core", name := "stalls", desc := "(II)Z" } : Jvm.MethodName) ({ cls := "SharerHome$Core", name := "stalls", desc := "(II)Z" } : Jvm.MethodName)) ∈ zB := zB_mem (List.mem_of_getElem? (i := 243) rfl) rfl
set_option maxRecDepth 100000 in
theorem co_C_stalls : (Jvm.Cond.code ({ cls := "SharerHome$Core", name := "stalls", desc := "(II)Z" } : Jvm.MethodName) prog_2_method_4_code (3 : Nat) (Option.some Jvm.ClassFile.FieldType.boolean)) ∈ zB := zB_mem (List.mem_of_getElem? (i := 244) rfl) rfl
set_option maxRecDepth 100000 in
theorem ml_S_53 : (Jvm.Cond.methodLink "SharerHome" (53 : Nat) ({ cls := "SharerHome", name := "handOver", desc := "(I)V" } : Jvm.MethodName)) ∈ zB := zB_mem (List.mem_of_getElem? (i := 245) rfl) rfl
set_option maxRecDepth 100000 in
theorem im_S_handOver : (Jvm.Cond.instanceMethod ({ cls := "SharerHome", name := "handOver", desc := "(I)V" } : Jvm.MethodName)) ∈ zB := zB_mem (List.mem_of_getElem? (i := 247) rfl) rfl
set_option maxRecDepth 100000 in
theorem co_S_handOver : (Jvm.Cond.code ({ cls := "SharerHome", name := "handOver", desc := "(I)V" } : Jvm.MethodName) prog_1_method_25_code (3 : Nat) (Option.none : Option Jvm.ClassFile.FieldType)) ∈ zB := zB_mem (List.mem_of_getElem? (i := 248) rfl) rfl
set_option maxRecDepth 100000 in
theorem ml_S_115 : (Jvm.Cond.methodLink "SharerHome" (115 : Nat) ({ cls := "SharerHome$Home", name := "take", desc := "(I)V" } : Jvm.MethodName)) ∈ zB := zB_mem (List.mem_of_getElem? (i := 249) rfl) rfl
set_option maxRecDepth 100000 in
theorem im_H_take : (Jvm.Cond.instanceMethod ({ cls := "SharerHome$Home", name := "take", desc := "(I)V" } : Jvm.MethodName)) ∈ zB := zB_mem (List.mem_of_getElem? (i := 250) rfl) rfl
set_option maxRecDepth 100000 in
theorem se_H_take : (Jvm.Cond.selects "SharerHome$Home" ({ cls := "SharerHome$Home", name := "take", desc := "(I)V" } : Jvm.MethodName) ({ cls := "SharerHome$Home", name := "take", desc := "(I)V" } : Jvm.MethodName)) ∈ zB := zB_mem (List.mem_of_getElem? (i := 251) rfl) rfl
set_option maxRecDepth 100000 in
theorem co_H_take : (Jvm.Cond.code ({ cls := "SharerHome$Home", name := "take", desc := "(I)V" } : Jvm.MethodName) prog_3_method_4_code (4 : Nat) (Option.none : Option Jvm.ClassFile.FieldType)) ∈ zB := zB_mem (List.mem_of_getElem? (i := 252) rfl) rfl
set_option maxRecDepth 100000 in
theorem ml_H_28 : (Jvm.Cond.methodLink "SharerHome$Home" (28 : Nat) ({ cls := "SharerHome$Mail", name := "part", desc := "(II)I" } : Jvm.MethodName)) ∈ zB := zB_mem (List.mem_of_getElem? (i := 253) rfl) rfl
set_option maxRecDepth 100000 in
theorem ml_H_34 : (Jvm.Cond.methodLink "SharerHome$Home" (34 : Nat) ({ cls := "SharerHome$Home", name := "takeRead", desc := "(II)V" } : Jvm.MethodName)) ∈ zB := zB_mem (List.mem_of_getElem? (i := 254) rfl) rfl
set_option maxRecDepth 100000 in
theorem im_H_takeRead : (Jvm.Cond.instanceMethod ({ cls := "SharerHome$Home", name := "takeRead", desc := "(II)V" } : Jvm.MethodName)) ∈ zB := zB_mem (List.mem_of_getElem? (i := 256) rfl) rfl
set_option maxRecDepth 100000 in
theorem co_H_takeRead : (Jvm.Cond.code ({ cls := "SharerHome$Home", name := "takeRead", desc := "(II)V" } : Jvm.MethodName) prog_3_method_5_code (3 : Nat) (Option.none : Option Jvm.ClassFile.FieldType)) ∈ zB := zB_mem (List.mem_of_getElem? (i := 257) rfl) rfl
set_option maxRecDepth 100000 in
theorem ml_H_45 : (Jvm.Cond.methodLink "SharerHome$Home" (45 : Nat) ({ cls := "SharerHome$Mail", name := "send", desc := "(IIIIIII)V" } : Jvm.MethodName)) ∈ zB := zB_mem (List.mem_of_getElem? (i := 258) rfl) rfl
set_option maxRecDepth 100000 in
theorem ml_H_49 : (Jvm.Cond.methodLink "SharerHome$Home" (49 : Nat) ({ cls := "SharerHome$Home", name := "makeOwner", desc := "(II)V" } : Jvm.MethodName)) ∈ zB := zB_mem (List.mem_of_getElem? (i := 259) rfl) rfl
set_option maxRecDepth 100000 in
theorem im_H_makeOwner : (Jvm.Cond.instanceMethod ({ cls := "SharerHome$Home", name := "makeOwner", desc := "(II)V" } : Jvm.MethodName)) ∈ zB := zB_mem (List.mem_of_getElem? (i := 261) rfl) rfl
set_option maxRecDepth 100000 in
theorem co_H_makeOwner : (Jvm.Cond.code ({ cls := "SharerHome$Home", name := "makeOwner", desc := "(II)V" } : Jvm.MethodName) prog_3_method_10_code (3 : Nat) (Option.none : Option Jvm.ClassFile.FieldType)) ∈ zB := zB_mem (List.mem_of_getElem? (i := 262) rfl) rfl
set_option maxRecDepth 100000 in
theorem ml_H_52 : (Jvm.Cond.methodLink "SharerHome$Home" (52 : Nat) ({ cls := "SharerHome$Home", name := "bit", desc := "(I)I" } : Jvm.MethodName)) ∈ zB := zB_mem (List.mem_of_getElem? (i := 263) rfl) rfl
set_option maxRecDepth 100000 in
theorem sc_H_bit : (Jvm.Cond.static ({ cls := "SharerHome$Home", name := "bit", desc := "(I)I" } : Jvm.MethodName)) ∈ zB := zB_mem (List.mem_of_getElem? (i := 264) rfl) rfl
set_option maxRecDepth 100000 in
theorem co_H_bit : (Jvm.Cond.code ({ cls := "SharerHome$Home", name := "bit", desc := "(I)I" } : Jvm.MethodName) prog_3_method_11_code (1 : Nat) (Option.some Jvm.ClassFile.FieldType.int)) ∈ zB := zB_mem (List.mem_of_getElem? (i := 265) rfl) rfl
set_option maxRecDepth 100000 in
theorem ml_H_38 : (Jvm.Cond.methodLink "SharerHome$Home" (38 : Nat) ({ cls := "SharerHome$Home", name := "takeWrite", desc := "(II)V" } : Jvm.MethodName)) ∈ zB := zB_mem (List.mem_of_getElem? (i := 266) rfl) rfl
set_option maxRecDepth 100000 in
theorem im_H_takeWrite : (Jvm.Cond.instanceMethod ({ cls := "SharerHome$Home", name := "takeWrite", desc := "(II)V" } : Jvm.MethodName)) ∈ zB := zB_mem (List.mem_of_getElem? (i := 268) rfl) rfl
set_option maxRecDepth 100000 in
theorem co_H_takeWrite : (Jvm.Cond.code ({ cls := "SharerHome$Home", name := "takeWrite", desc := "(II)V" } : Jvm.MethodName) prog_3_method_6_code (3 : Nat) (Option.none : Option Jvm.ClassFile.FieldType)) ∈ zB := zB_mem (List.mem_of_getElem? (i := 269) rfl) rfl
set_option maxRecDepth 100000 in
theorem ml_H_56 : (Jvm.Cond.methodLink "SharerHome$Home" (56 : Nat) ({ cls := "SharerHome$Home", name := "dropOthers", desc := "(II)V" } : Jvm.MethodName)) ∈ zB := zB_mem (List.mem_of_getElem? (i := 270) rfl) rfl
set_option maxRecDepth 100000 in
theorem im_H_dropOthers : (Jvm.Cond.instanceMethod ({ cls := "SharerHome$Home", name := "dropOthers", desc := "(II)V" } : Jvm.MethodName)) ∈ zB := zB_mem (List.mem_of_getElem? (i := 272) rfl) rfl
set_option maxRecDepth 100000 in
theorem co_H_dropOthers : (Jvm.Cond.code ({ cls := "SharerHome$Home", name := "dropOthers", desc := "(II)V" } : Jvm.MethodName) prog_3_method_7_code (5 : Nat) (Option.none : Option Jvm.ClassFile.FieldType)) ∈ zB := zB_mem (List.mem_of_getElem? (i := 273) rfl) rfl
set_option maxRecDepth 100000 in
theorem ml_H_59 : (Jvm.Cond.methodLink "SharerHome$Home" (59 : Nat) ({ cls := "java/lang/Integer", name := "bitCount", desc := "(I)I" } : Jvm.MethodName)) ∈ zB := zB_mem (List.mem_of_getElem? (i := 274) rfl) rfl
set_option maxRecDepth 100000 in
theorem sc_J_bitCount : (Jvm.Cond.static ({ cls := "java/lang/Integer", name := "bitCount", desc := "(I)I" } : Jvm.MethodName)) ∈ zB := zB_mem (List.mem_of_getElem? (i := 275) rfl) rfl
set_option maxRecDepth 100000 in
theorem co_J_bitCount : (Jvm.Cond.code ({ cls := "java/lang/Integer", name := "bitCount", desc := "(I)I" } : Jvm.MethodName) prog_7_method_49_code (1 : Nat) (Option.some Jvm.ClassFile.FieldType.int)) ∈ zB := zB_mem (List.mem_of_getElem? (i := 276) rfl) rfl
set_option maxRecDepth 100000 in
theorem ki_J_265 : (Jvm.Cond.constant "java/lang/Integer" (265 : Nat) (1431655765 : Int32)) ∈ zB := zB_mem (List.mem_of_getElem? (i := 277) rfl) rfl
set_option maxRecDepth 100000 in
theorem ki_J_266 : (Jvm.Cond.constant "java/lang/Integer" (266 : Nat) (858993459 : Int32)) ∈ zB := zB_mem (List.mem_of_getElem? (i := 278) rfl) rfl
set_option maxRecDepth 100000 in
theorem ki_J_267 : (Jvm.Cond.constant "java/lang/Integer" (267 : Nat) (252645135 : Int32)) ∈ zB := zB_mem (List.mem_of_getElem? (i := 279) rfl) rfl
set_option maxRecDepth 100000 in
theorem ml_H_41 : (Jvm.Cond.methodLink "SharerHome$Home" (41 : Nat) ({ cls := "SharerHome$Home", name := "takeLeave", desc := "(III)V" } : Jvm.MethodName)) ∈ zB := zB_mem (List.mem_of_getElem? (i := 280) rfl) rfl
set_option maxRecDepth 100000 in
theorem im_H_takeLeave : (Jvm.Cond.instanceMethod ({ cls := "SharerHome$Home", name := "takeLeave", desc := "(III)V" } : Jvm.MethodName)) ∈ zB := zB_mem (List.mem_of_getElem? (i := 282) rfl) rfl
set_option maxRecDepth 100000 in
theorem co_H_takeLeave : (Jvm.Cond.code ({ cls := "SharerHome$Home", name := "takeLeave", desc := "(III)V" } : Jvm.MethodName) prog_3_method_8_code (4 : Nat) (Option.none : Option Jvm.ClassFile.FieldType)) ∈ zB := zB_mem (List.mem_of_getElem? (i := 283) rfl) rfl
set_option maxRecDepth 100000 in
theorem ml_H_64 : (Jvm.Cond.methodLink "SharerHome$Home" (64 : Nat) ({ cls := "SharerHome$Home", name := "forgetSharer", desc := "(II)V" } : Jvm.MethodName)) ∈ zB := zB_mem (List.mem_of_getElem? (i := 284) rfl) rfl
set_option maxRecDepth 100000 in
theorem im_H_forgetSharer : (Jvm.Cond.instanceMethod ({ cls := "SharerHome$Home", name := "forgetSharer", desc := "(II)V" } : Jvm.MethodName)) ∈ zB := zB_mem (List.mem_of_getElem? (i := 286) rfl) rfl
set_option maxRecDepth 100000 in
theorem co_H_forgetSharer : (Jvm.Cond.code ({ cls := "SharerHome$Home", name := "forgetSharer", desc := "(II)V" } : Jvm.MethodName) prog_3_method_9_code (3 : Nat) (Option.none : Option Jvm.ClassFile.FieldType)) ∈ zB := zB_mem (List.mem_of_getElem? (i := 287) rfl) rfl
set_option maxRecDepth 100000 in
theorem ml_S_118 : (Jvm.Cond.methodLink "SharerHome" (118 : Nat) ({ cls := "SharerHome$Core", name := "take", desc := "(I)V" } : Jvm.MethodName)) ∈ zB := zB_mem (List.mem_of_getElem? (i := 288) rfl) rfl
set_option maxRecDepth 100000 in
theorem im_C_take : (Jvm.Cond.instanceMethod ({ cls := "SharerHome$Core", name := "take", desc := "(I)V" } : Jvm.MethodName)) ∈ zB := zB_mem (List.mem_of_getElem? (i := 289) rfl) rfl
set_option maxRecDepth 100000 in
theorem se_C_take : (Jvm.Cond.selects "SharerHome$Core" ({ cls := "SharerHome$Core", name := "take", desc := "(I)V" } : Jvm.MethodName) ({ cls := "SharerHome$Core", name := "take", desc := "(I)V" } : Jvm.MethodName)) ∈ zB := zB_mem (List.mem_of_getElem? (i := 290) rfl) rfl
set_option maxRecDepth 100000 in
theorem co_C_take : (Jvm.Cond.code ({ cls := "SharerHome$Core", name := "take", desc := "(I)V" } : Jvm.MethodName) prog_2_method_5_code (4 : Nat) (Option.none : Option Jvm.ClassFile.FieldType)) ∈ zB := zB_mem (List.mem_of_getElem? (i := 291) rfl) rfl
set_option maxRecDepth 100000 in
theorem ml_C_63 : (Jvm.Cond.methodLink "SharerHome$Core" (63 : Nat) ({ cls := "SharerHome$Mail", name := "part", desc := "(II)I" } : Jvm.MethodName)) ∈ zB := zB_mem (List.mem_of_getElem? (i := 292) rfl) rfl
set_option maxRecDepth 100000 in
theorem ml_C_69 : (Jvm.Cond.methodLink "SharerHome$Core" (69 : Nat) ({ cls := "SharerHome$Core", name := "shareWith", desc := "(II)V" } : Jvm.MethodName)) ∈ zB := zB_mem (List.mem_of_getElem? (i := 293) rfl) rfl
set_option maxRecDepth 100000 in
theorem im_C_shareWith : (Jvm.Cond.instanceMethod ({ cls := "SharerHome$Core", name := "shareWith", desc := "(II)V" } : Jvm.MethodName)) ∈ zB := zB_mem (List.mem_of_getElem? (i := 295) rfl) rfl
set_option maxRecDepth 100000 in
theorem co_C_shareWith : (Jvm.Cond.code ({ cls := "SharerHome$Core", name := "shareWith", desc := "(II)V" } : Jvm.MethodName) prog_2_method_12_code (4 : Nat) (Option.none : Option Jvm.ClassFile.FieldType)) ∈ zB := zB_mem (List.mem_of_getElem? (i := 296) rfl) rfl
set_option maxRecDepth 100000 in
theorem ml_C_90 : (Jvm.Cond.methodLink "SharerHome$Core" (90 : Nat) ({ cls := "SharerHome$Core", name := "isLeavingAlone", desc := "(I)Z" } : Jvm.MethodName)) ∈ zB := zB_mem (List.mem_of_getElem? (i := 297) rfl) rfl
set_option maxRecDepth 100000 in
theorem im_C_isLeavingAlone : (Jvm.Cond.instanceMethod ({ cls := "SharerHome$Core", name := "isLeavingAlone", desc := "(I)Z" } : Jvm.MethodName)) ∈ zB := zB_mem (List.mem_of_getElem? (i := 299) rfl) rfl
set_option maxRecDepth 100000 in
theorem co_C_isLeavingAlone : (Jvm.Cond.code ({ cls := "SharerHome$Core", name := "isLeavingAlone", desc := "(I)Z" } : Jvm.MethodName) prog_2_method_14_code (2 : Nat) (Option.some Jvm.ClassFile.FieldType.boolean)) ∈ zB := zB_mem (List.mem_of_getElem? (i := 300) rfl) rfl
set_option maxRecDepth 100000 in
theorem ml_C_73 : (Jvm.Cond.methodLink "SharerHome$Core" (73 : Nat) ({ cls := "SharerHome$Core", name := "yieldTo", desc := "(II)V" } : Jvm.MethodName)) ∈ zB := zB_mem (List.mem_of_getElem? (i := 301) rfl) rfl
set_option maxRecDepth 100000 in
theorem im_C_yieldTo : (Jvm.Cond.instanceMethod ({ cls := "SharerHome$Core", name := "yieldTo", desc := "(II)V" } : Jvm.MethodName)) ∈ zB := zB_mem (List.mem_of_getElem? (i := 303) rfl) rfl
set_option maxRecDepth 100000 in
theorem co_C_yieldTo : (Jvm.Cond.code ({ cls := "SharerHome$Core", name := "yieldTo", desc := "(II)V" } : Jvm.MethodName) prog_2_method_13_code (4 : Nat) (Option.none : Option Jvm.ClassFile.FieldType)) ∈ zB := zB_mem (List.mem_of_getElem? (i := 304) rfl) rfl
set_option maxRecDepth 100000 in
theorem ml_C_76 : (Jvm.Cond.methodLink "SharerHome$Core" (76 : Nat) ({ cls := "SharerHome$Core", name := "dropFor", desc := "(II)V" } : Jvm.MethodName)) ∈ zB := zB_mem (List.mem_of_getElem? (i := 305) rfl) rfl
set_option maxRecDepth 100000 in
theorem im_C_dropFor : (Jvm.Cond.instanceMethod ({ cls := "SharerHome$Core", name := "dropFor", desc := "(II)V" } : Jvm.MethodName)) ∈ zB := zB_mem (List.mem_of_getElem? (i := 307) rfl) rfl
set_option maxRecDepth 100000 in
theorem co_C_dropFor : (Jvm.Cond.code ({ cls := "SharerHome$Core", name := "dropFor", desc := "(II)V" } : Jvm.MethodName) prog_2_method_15_code (3 : Nat) (Option.none : Option Jvm.ClassFile.FieldType)) ∈ zB := zB_mem (List.mem_of_getElem? (i := 308) rfl) rfl
set_option maxRecDepth 100000 in
theorem ml_C_79 : (Jvm.Cond.methodLink "SharerHome$Core" (79 : Nat) ({ cls := "SharerHome$Core", name := "takeData", desc := "(III)V" } : Jvm.MethodName)) ∈ zB := zB_mem (List.mem_of_getElem? (i := 309) rfl) rfl
set_option maxRecDepth 100000 in
theorem im_C_takeData : (Jvm.Cond.instanceMethod ({ cls := "SharerHome$Core", name := "takeData", desc := "(III)V" } : Jvm.MethodName)) ∈ zB := zB_mem (List.mem_of_getElem? (i := 311) rfl) rfl
set_option maxRecDepth 100000 in
theorem co_C_takeData : (Jvm.Cond.code ({ cls := "SharerHome$Core", name := "takeData", desc := "(III)V" } : Jvm.MethodName) prog_2_method_16_code (4 : Nat) (Option.none : Option Jvm.ClassFile.FieldType)) ∈ zB := zB_mem (List.mem_of_getElem? (i := 312) rfl) rfl
set_option maxRecDepth 100000 in
theorem ml_C_93 : (Jvm.Cond.methodLink "SharerHome$Core" (93 : Nat) ({ cls := "SharerHome$Core", name := "ownIfNothingOwed", desc := "(I)V" } : Jvm.MethodName)) ∈ zB := zB_mem (List.mem_of_getElem? (i := 313) rfl) rfl
set_option maxRecDepth 100000 in
theorem im_C_ownIfNothingOwed : (Jvm.Cond.instanceMethod ({ cls := "SharerHome$Core", name := "ownIfNothingOwed", desc := "(I)V" } : Jvm.MethodName)) ∈ zB := zB_mem (List.mem_of_getElem? (i := 315) rfl) rfl
set_option maxRecDepth 100000 in
theorem co_C_ownIfNothingOwed : (Jvm.Cond.code ({ cls := "SharerHome$Core", name := "ownIfNothingOwed", desc := "(I)V" } : Jvm.MethodName) prog_2_method_18_code (2 : Nat) (Option.none : Option Jvm.ClassFile.FieldType)) ∈ zB := zB_mem (List.mem_of_getElem? (i := 316) rfl) rfl
set_option maxRecDepth 100000 in
theorem ml_C_83 : (Jvm.Cond.methodLink "SharerHome$Core" (83 : Nat) ({ cls := "SharerHome$Core", name := "takeDropped", desc := "(I)V" } : Jvm.MethodName)) ∈ zB := zB_mem (List.mem_of_getElem? (i := 317) rfl) rfl
set_option maxRecDepth 100000 in
theorem im_C_takeDropped : (Jvm.Cond.instanceMethod ({ cls := "SharerHome$Core", name := "takeDropped", desc := "(I)V" } : Jvm.MethodName)) ∈ zB := zB_mem (List.mem_of_getElem? (i := 319) rfl) rfl
set_option maxRecDepth 100000 in
theorem co_C_takeDropped : (Jvm.Cond.code ({ cls := "SharerHome$Core", name := "takeDropped", desc := "(I)V" } : Jvm.MethodName) prog_2_method_17_code (2 : Nat) (Option.none : Option Jvm.ClassFile.FieldType)) ∈ zB := zB_mem (List.mem_of_getElem? (i := 320) rfl) rfl
set_option maxRecDepth 100000 in
theorem ml_S_119 : (Jvm.Cond.methodLink "SharerHome" (119 : Nat) ({ cls := "SharerHome$Mail", name := "remove", desc := "(I)V" } : Jvm.MethodName)) ∈ zB := zB_mem (List.mem_of_getElem? (i := 321) rfl) rfl
set_option maxRecDepth 100000 in
theorem im_A_remove : (Jvm.Cond.instanceMethod ({ cls := "SharerHome$Mail", name := "remove", desc := "(I)V" } : Jvm.MethodName)) ∈ zB := zB_mem (List.mem_of_getElem? (i := 322) rfl) rfl
set_option maxRecDepth 100000 in
theorem se_A_remove : (Jvm.Cond.selects "SharerHome$Mail" ({ cls := "SharerHome$Mail", name := "remove", desc := "(I)V" } : Jvm.MethodName) ({ cls := "SharerHome$Mail", name := "remove", desc := "(I)V" } : Jvm.MethodName)) ∈ zB := zB_mem (List.mem_of_getElem? (i := 323) rfl) rfl
set_option maxRecDepth 100000 in
theorem co_A_remove : (Jvm.Cond.code ({ cls := "SharerHome$Mail", name := "remove", desc := "(I)V" } : Jvm.MethodName) prog_4_method_5_code (4 : Nat) (Option.none : Option Jvm.ClassFile.FieldType)) ∈ zB := zB_mem (List.mem_of_getElem? (i := 324) rfl) rfl
set_option maxRecDepth 100000 in
theorem ml_L_36 : (Jvm.Cond.methodLink "SharerHomeLaw" (36 : Nat) ({ cls := "SharerHome", name := "message", desc := "(II)I" } : Jvm.MethodName)) ∈ zB := zB_mem (List.mem_of_getElem? (i := 325) rfl) rfl
set_option maxRecDepth 100000 in
theorem im_S_message : (Jvm.Cond.instanceMethod ({ cls := "SharerHome", name := "message", desc := "(II)I" } : Jvm.MethodName)) ∈ zB := zB_mem (List.mem_of_getElem? (i := 326) rfl) rfl
set_option maxRecDepth 100000 in
theorem se_S_message : (Jvm.Cond.selects "SharerHome" ({ cls := "SharerHome", name := "message", desc := "(II)I" } : Jvm.MethodName) ({ cls := "SharerHome", name := "message", desc := "(II)I" } : Jvm.MethodName)) ∈ zB := zB_mem (List.mem_of_getElem? (i := 327) rfl) rfl
set_option maxRecDepth 100000 in
theorem co_S_message : (Jvm.Cond.code ({ cls := "SharerHome", name := "message", desc := "(II)I" } : Jvm.MethodName) prog_1_method_7_code (3 : Nat) (Option.some Jvm.ClassFile.FieldType.int)) ∈ zB := zB_mem (List.mem_of_getElem? (i := 328) rfl) rfl
set_option maxRecDepth 100000 in
theorem ml_L_40 : (Jvm.Cond.methodLink "SharerHomeLaw" (40 : Nat) ({ cls := "SharerHome", name := "carried", desc := "(I)I" } : Jvm.MethodName)) ∈ zB := zB_mem (List.mem_of_getElem? (i := 329) rfl) rfl
set_option maxRecDepth 100000 in
theorem im_S_carried : (Jvm.Cond.instanceMethod ({ cls := "SharerHome", name := "carried", desc := "(I)I" } : Jvm.MethodName)) ∈ zB := zB_mem (List.mem_of_getElem? (i := 330) rfl) rfl
set_option maxRecDepth 100000 in
theorem se_S_carried : (Jvm.Cond.selects "SharerHome" ({ cls := "SharerHome", name := "carried", desc := "(I)I" } : Jvm.MethodName) ({ cls := "SharerHome", name := "carried", desc := "(I)I" } : Jvm.MethodName)) ∈ zB := zB_mem (List.mem_of_getElem? (i := 331) rfl) rfl
set_option maxRecDepth 100000 in
theorem co_S_carried : (Jvm.Cond.code ({ cls := "SharerHome", name := "carried", desc := "(I)I" } : Jvm.MethodName) prog_1_method_8_code (2 : Nat) (Option.some Jvm.ClassFile.FieldType.int)) ∈ zB := zB_mem (List.mem_of_getElem? (i := 332) rfl) rfl
set_option maxRecDepth 100000 in
theorem ml_L_44 : (Jvm.Cond.methodLink "SharerHomeLaw" (44 : Nat) ({ cls := "SharerHome", name := "state", desc := "(II)I" } : Jvm.MethodName)) ∈ zB := zB_mem (List.mem_of_getElem? (i := 333) rfl) rfl
set_option maxRecDepth 100000 in
theorem im_S_state : (Jvm.Cond.instanceMethod ({ cls := "SharerHome", name := "state", desc := "(II)I" } : Jvm.MethodName)) ∈ zB := zB_mem (List.mem_of_getElem? (i := 334) rfl) rfl
set_option maxRecDepth 100000 in
theorem se_S_state : (Jvm.Cond.selects "SharerHome" ({ cls := "SharerHome", name := "state", desc := "(II)I" } : Jvm.MethodName) ({ cls := "SharerHome", name := "state", desc := "(II)I" } : Jvm.MethodName)) ∈ zB := zB_mem (List.mem_of_getElem? (i := 335) rfl) rfl
set_option maxRecDepth 100000 in
theorem co_S_state : (Jvm.Cond.code ({ cls := "SharerHome", name := "state", desc := "(II)I" } : Jvm.MethodName) prog_1_method_9_code (3 : Nat) (Option.some Jvm.ClassFile.FieldType.int)) ∈ zB := zB_mem (List.mem_of_getElem? (i := 336) rfl) rfl
set_option maxRecDepth 100000 in
theorem ml_L_48 : (Jvm.Cond.methodLink "SharerHomeLaw" (48 : Nat) ({ cls := "SharerHome", name := "value", desc := "(II)I" } : Jvm.MethodName)) ∈ zB := zB_mem (List.mem_of_getElem? (i := 337) rfl) rfl
set_option maxRecDepth 100000 in
theorem im_S_value : (Jvm.Cond.instanceMethod ({ cls := "SharerHome", name := "value", desc := "(II)I" } : Jvm.MethodName)) ∈ zB := zB_mem (List.mem_of_getElem? (i := 338) rfl) rfl
set_option maxRecDepth 100000 in
theorem se_S_value : (Jvm.Cond.selects "SharerHome" ({ cls := "SharerHome", name := "value", desc := "(II)I" } : Jvm.MethodName) ({ cls := "SharerHome", name := "value", desc := "(II)I" } : Jvm.MethodName)) ∈ zB := zB_mem (List.mem_of_getElem? (i := 339) rfl) rfl
set_option maxRecDepth 100000 in
theorem co_S_value : (Jvm.Cond.code ({ cls := "SharerHome", name := "value", desc := "(II)I" } : Jvm.MethodName) prog_1_method_10_code (3 : Nat) (Option.some Jvm.ClassFile.FieldType.int)) ∈ zB := zB_mem (List.mem_of_getElem? (i := 340) rfl) rfl
set_option maxRecDepth 100000 in
theorem ml_S_69 : (Jvm.Cond.methodLink "SharerHome" (69 : Nat) ({ cls := "SharerHome$Core", name := "shownValue", desc := "(I)I" } : Jvm.MethodName)) ∈ zB := zB_mem (List.mem_of_getElem? (i := 341) rfl) rfl
set_option maxRecDepth 100000 in
theorem im_C_shownValue : (Jvm.Cond.instanceMethod ({ cls := "SharerHome$Core", name := "shownValue", desc := "(I)I" } : Jvm.MethodName)) ∈ zB := zB_mem (List.mem_of_getElem? (i := 342) rfl) rfl
set_option maxRecDepth 100000 in
theorem se_C_shownValue : (Jvm.Cond.selects "SharerHome$Core" ({ cls := "SharerHome$Core", name := "shownValue", desc := "(I)I" } : Jvm.MethodName) ({ cls := "SharerHome$Core", name := "shownValue", desc := "(I)I" } : Jvm.MethodName)) ∈ zB := zB_mem (List.mem_of_getElem? (i := 343) rfl) rfl
set_option maxRecDepth 100000 in
theorem co_C_shownValue : (Jvm.Cond.code ({ cls := "SharerHome$Core", name := "shownValue", desc := "(I)I" } : Jvm.MethodName) prog_2_method_6_code (2 : Nat) (Option.some Jvm.ClassFile.FieldType.int)) ∈ zB := zB_mem (List.mem_of_getElem? (i := 344) rfl) rfl
set_option maxRecDepth 100000 in
theorem ml_L_52 : (Jvm.Cond.methodLink "SharerHomeLaw" (52 : Nat) ({ cls := "SharerHome", name := "due", desc := "(II)I" } : Jvm.MethodName)) ∈ zB := zB_mem (List.mem_of_getElem? (i := 345) rfl) rfl
set_option maxRecDepth 100000 in
theorem im_S_due : (Jvm.Cond.instanceMethod ({ cls := "SharerHome", name := "due", desc := "(II)I" } : Jvm.MethodName)) ∈ zB := zB_mem (List.mem_of_getElem? (i := 346) rfl) rfl
set_option maxRecDepth 100000 in
theorem se_S_due : (Jvm.Cond.selects "SharerHome" ({ cls := "SharerHome", name := "due", desc := "(II)I" } : Jvm.MethodName) ({ cls := "SharerHome", name := "due", desc := "(II)I" } : Jvm.MethodName)) ∈ zB := zB_mem (List.mem_of_getElem? (i := 347) rfl) rfl
set_option maxRecDepth 100000 in
theorem co_S_due : (Jvm.Cond.code ({ cls := "SharerHome", name := "due", desc := "(II)I" } : Jvm.MethodName) prog_1_method_11_code (3 : Nat) (Option.some Jvm.ClassFile.FieldType.int)) ∈ zB := zB_mem (List.mem_of_getElem? (i := 348) rfl) rfl
set_option maxRecDepth 100000 in
theorem ml_S_72 : (Jvm.Cond.methodLink "SharerHome" (72 : Nat) ({ cls := "SharerHome$Core", name := "shownOwed", desc := "(I)I" } : Jvm.MethodName)) ∈ zB := zB_mem (List.mem_of_getElem? (i := 349) rfl) rfl
set_option maxRecDepth 100000 in
theorem im_C_shownOwed : (Jvm.Cond.instanceMethod ({ cls := "SharerHome$Core", name := "shownOwed", desc := "(I)I" } : Jvm.MethodName)) ∈ zB := zB_mem (List.mem_of_getElem? (i := 350) rfl) rfl
set_option maxRecDepth 100000 in
theorem se_C_shownOwed : (Jvm.Cond.selects "SharerHome$Core" ({ cls := "SharerHome$Core", name := "shownOwed", desc := "(I)I" } : Jvm.MethodName) ({ cls := "SharerHome$Core", name := "shownOwed", desc := "(I)I" } : Jvm.MethodName)) ∈ zB := zB_mem (List.mem_of_getElem? (i := 351) rfl) rfl
set_option maxRecDepth 100000 in
theorem co_C_shownOwed : (Jvm.Cond.code ({ cls := "SharerHome$Core", name := "shownOwed", desc := "(I)I" } : Jvm.MethodName) prog_2_method_7_code (2 : Nat) (Option.some Jvm.ClassFile.FieldType.int)) ∈ zB := zB_mem (List.mem_of_getElem? (i := 352) rfl) rfl
set_option maxRecDepth 100000 in
theorem ml_L_56 : (Jvm.Cond.methodLink "SharerHomeLaw" (56 : Nat) ({ cls := "SharerHome", name := "home", desc := "(I)I" } : Jvm.MethodName)) ∈ zB := zB_mem (List.mem_of_getElem? (i := 353) rfl) rfl
set_option maxRecDepth 100000 in
theorem im_S_home : (Jvm.Cond.instanceMethod ({ cls := "SharerHome", name := "home", desc := "(I)I" } : Jvm.MethodName)) ∈ zB := zB_mem (List.mem_of_getElem? (i := 354) rfl) rfl
set_option maxRecDepth 100000 in
theorem se_S_home : (Jvm.Cond.selects "SharerHome" ({ cls := "SharerHome", name := "home", desc := "(I)I" } : Jvm.MethodName) ({ cls := "SharerHome", name := "home", desc := "(I)I" } : Jvm.MethodName)) ∈ zB := zB_mem (List.mem_of_getElem? (i := 355) rfl) rfl
set_option maxRecDepth 100000 in
theorem co_S_home : (Jvm.Cond.code ({ cls := "SharerHome", name := "home", desc := "(I)I" } : Jvm.MethodName) prog_1_method_12_code (2 : Nat) (Option.some Jvm.ClassFile.FieldType.int)) ∈ zB := zB_mem (List.mem_of_getElem? (i := 356) rfl) rfl
set_option maxRecDepth 100000 in
theorem ml_S_78 : (Jvm.Cond.methodLink "SharerHome" (78 : Nat) ({ cls := "SharerHome$Home", name := "summary", desc := "(I)I" } : Jvm.MethodName)) ∈ zB := zB_mem (List.mem_of_getElem? (i := 357) rfl) rfl
set_option maxRecDepth 100000 in
theorem im_H_summary : (Jvm.Cond.instanceMethod ({ cls := "SharerHome$Home", name := "summary", desc := "(I)I" } : Jvm.MethodName)) ∈ zB := zB_mem (List.mem_of_getElem? (i := 358) rfl) rfl
set_option maxRecDepth 100000 in
theorem se_H_summary : (Jvm.Cond.selects "SharerHome$Home" ({ cls := "SharerHome$Home", name := "summary", desc := "(I)I" } : Jvm.MethodName) ({ cls := "SharerHome$Home", name := "summary", desc := "(I)I" } : Jvm.MethodName)) ∈ zB := zB_mem (List.mem_of_getElem? (i := 359) rfl) rfl
set_option maxRecDepth 100000 in
theorem co_H_summary : (Jvm.Cond.code ({ cls := "SharerHome$Home", name := "summary", desc := "(I)I" } : Jvm.MethodName) prog_3_method_2_code (3 : Nat) (Option.some Jvm.ClassFile.FieldType.int)) ∈ zB := zB_mem (List.mem_of_getElem? (i := 360) rfl) rfl
set_option maxRecDepth 100000 in
theorem ml_L_60 : (Jvm.Cond.methodLink "SharerHomeLaw" (60 : Nat) ({ cls := "SharerHome", name := "memory", desc := "(I)I" } : Jvm.MethodName)) ∈ zB := zB_mem (List.mem_of_getElem? (i := 361) rfl) rfl
set_option maxRecDepth 100000 in
theorem im_S_memory : (Jvm.Cond.instanceMethod ({ cls := "SharerHome", name := "memory", desc := "(I)I" } : Jvm.MethodName)) ∈ zB := zB_mem (List.mem_of_getElem? (i := 362) rfl) rfl
set_option maxRecDepth 100000 in
theorem se_S_memory : (Jvm.Cond.selects "SharerHome" ({ cls := "SharerHome", name := "memory", desc := "(I)I" } : Jvm.MethodName) ({ cls := "SharerHome", name := "memory", desc := "(I)I" } : Jvm.MethodName)) ∈ zB := zB_mem (List.mem_of_getElem? (i := 363) rfl) rfl
set_option maxRecDepth 100000 in
theorem co_S_memory : (Jvm.Cond.code ({ cls := "SharerHome", name := "memory", desc := "(I)I" } : Jvm.MethodName) prog_1_method_13_code (2 : Nat) (Option.some Jvm.ClassFile.FieldType.int)) ∈ zB := zB_mem (List.mem_of_getElem? (i := 364) rfl) rfl
set_option maxRecDepth 100000 in
theorem ml_L_64 : (Jvm.Cond.methodLink "SharerHomeLaw" (64 : Nat) ({ cls := "SharerHome", name := "waits", desc := "(I)Z" } : Jvm.MethodName)) ∈ zB := zB_mem (List.mem_of_getElem? (i := 365) rfl) rfl
set_option maxRecDepth 100000 in
theorem im_S_waits : (Jvm.Cond.instanceMethod ({ cls := "SharerHome", name := "waits", desc := "(I)Z" } : Jvm.MethodName)) ∈ zB := zB_mem (List.mem_of_getElem? (i := 366) rfl) rfl
set_option maxRecDepth 100000 in
theorem se_S_waits : (Jvm.Cond.selects "SharerHome" ({ cls := "SharerHome", name := "waits", desc := "(I)Z" } : Jvm.MethodName) ({ cls := "SharerHome", name := "waits", desc := "(I)Z" } : Jvm.MethodName)) ∈ zB := zB_mem (List.mem_of_getElem? (i := 367) rfl) rfl
set_option maxRecDepth 100000 in
theorem co_S_waits : (Jvm.Cond.code ({ cls := "SharerHome", name := "waits", desc := "(I)Z" } : Jvm.MethodName) prog_1_method_14_code (2 : Nat) (Option.some Jvm.ClassFile.FieldType.boolean)) ∈ zB := zB_mem (List.mem_of_getElem? (i := 368) rfl) rfl
set_option maxRecDepth 100000 in
theorem ml_L_69 : (Jvm.Cond.methodLink "SharerHomeLaw" (69 : Nat) ({ cls := "SharerHome", name := "done", desc := "(I)I" } : Jvm.MethodName)) ∈ zB := zB_mem (List.mem_of_getElem? (i := 369) rfl) rfl
set_option maxRecDepth 100000 in
theorem im_S_done : (Jvm.Cond.instanceMethod ({ cls := "SharerHome", name := "done", desc := "(I)I" } : Jvm.MethodName)) ∈ zB := zB_mem (List.mem_of_getElem? (i := 370) rfl) rfl
set_option maxRecDepth 100000 in
theorem se_S_done : (Jvm.Cond.selects "SharerHome" ({ cls := "SharerHome", name := "done", desc := "(I)I" } : Jvm.MethodName) ({ cls := "SharerHome", name := "done", desc := "(I)I" } : Jvm.MethodName)) ∈ zB := zB_mem (List.mem_of_getElem? (i := 371) rfl) rfl
set_option maxRecDepth 100000 in
theorem co_S_done : (Jvm.Cond.code ({ cls := "SharerHome", name := "done", desc := "(I)I" } : Jvm.MethodName) prog_1_method_15_code (2 : Nat) (Option.some Jvm.ClassFile.FieldType.int)) ∈ zB := zB_mem (List.mem_of_getElem? (i := 372) rfl) rfl
set_option maxRecDepth 100000 in
theorem ml_L_73 : (Jvm.Cond.methodLink "SharerHomeLaw" (73 : Nat) ({ cls := "SharerHome", name := "result", desc := "(I)I" } : Jvm.MethodName)) ∈ zB := zB_mem (List.mem_of_getElem? (i := 373) rfl) rfl
set_option maxRecDepth 100000 in
theorem im_S_result : (Jvm.Cond.instanceMethod ({ cls := "SharerHome", name := "result", desc := "(I)I" } : Jvm.MethodName)) ∈ zB := zB_mem (List.mem_of_getElem? (i := 374) rfl) rfl
set_option maxRecDepth 100000 in
theorem se_S_result : (Jvm.Cond.selects "SharerHome" ({ cls := "SharerHome", name := "result", desc := "(I)I" } : Jvm.MethodName) ({ cls := "SharerHome", name := "result", desc := "(I)I" } : Jvm.MethodName)) ∈ zB := zB_mem (List.mem_of_getElem? (i := 375) rfl) rfl
set_option maxRecDepth 100000 in
theorem co_S_result : (Jvm.Cond.code ({ cls := "SharerHome", name := "result", desc := "(I)I" } : Jvm.MethodName) prog_1_method_16_code (2 : Nat) (Option.some Jvm.ClassFile.FieldType.int)) ∈ zB := zB_mem (List.mem_of_getElem? (i := 376) rfl) rfl
set_option maxRecDepth 100000 in
theorem ml_L_77 : (Jvm.Cond.methodLink "SharerHomeLaw" (77 : Nat) ({ cls := "SharerHome", name := "tally", desc := "(II)I" } : Jvm.MethodName)) ∈ zB := zB_mem (List.mem_of_getElem? (i := 377) rfl) rfl
set_option maxRecDepth 100000 in
theorem im_S_tally : (Jvm.Cond.instanceMethod ({ cls := "SharerHome", name := "tally", desc := "(II)I" } : Jvm.MethodName)) ∈ zB := zB_mem (List.mem_of_getElem? (i := 378) rfl) rfl
set_option maxRecDepth 100000 in
theorem se_S_tally : (Jvm.Cond.selects "SharerHome" ({ cls := "SharerHome", name := "tally", desc := "(II)I" } : Jvm.MethodName) ({ cls := "SharerHome", name := "tally", desc := "(II)I" } : Jvm.MethodName)) ∈ zB := zB_mem (List.mem_of_getElem? (i := 379) rfl) rfl
set_option maxRecDepth 100000 in
theorem co_S_tally : (Jvm.Cond.code ({ cls := "SharerHome", name := "tally", desc := "(II)I" } : Jvm.MethodName) prog_1_method_17_code (3 : Nat) (Option.some Jvm.ClassFile.FieldType.int)) ∈ zB := zB_mem (List.mem_of_getElem? (i := 380) rfl) rfl
set_option maxRecDepth 100000 in
theorem ml_L_81 : (Jvm.Cond.methodLink "SharerHomeLaw" (81 : Nat) ({ cls := "SharerHome", name := "run", desc := "(I)I" } : Jvm.MethodName)) ∈ zB := zB_mem (List.mem_of_getElem? (i := 381) rfl) rfl
set_option maxRecDepth 100000 in
theorem im_S_run : (Jvm.Cond.instanceMethod ({ cls := "SharerHome", name := "run", desc := "(I)I" } : Jvm.MethodName)) ∈ zB := zB_mem (List.mem_of_getElem? (i := 382) rfl) rfl
set_option maxRecDepth 100000 in
theorem se_S_run : (Jvm.Cond.selects "SharerHome" ({ cls := "SharerHome", name := "run", desc := "(I)I" } : Jvm.MethodName) ({ cls := "SharerHome", name := "run", desc := "(I)I" } : Jvm.MethodName)) ∈ zB := zB_mem (List.mem_of_getElem? (i := 383) rfl) rfl
set_option maxRecDepth 100000 in
theorem co_S_run : (Jvm.Cond.code ({ cls := "SharerHome", name := "run", desc := "(I)I" } : Jvm.MethodName) prog_1_method_18_code (4 : Nat) (Option.some Jvm.ClassFile.FieldType.int)) ∈ zB := zB_mem (List.mem_of_getElem? (i := 384) rfl) rfl
set_option maxRecDepth 100000 in
theorem ml_S_101 : (Jvm.Cond.methodLink "SharerHome" (101 : Nat) ({ cls := "SharerHome", name := "oldestToTake", desc := "()I" } : Jvm.MethodName)) ∈ zB := zB_mem (List.mem_of_getElem? (i := 385) rfl) rfl
set_option maxRecDepth 100000 in
theorem im_S_oldestToTake : (Jvm.Cond.instanceMethod ({ cls := "SharerHome", name := "oldestToTake", desc := "()I" } : Jvm.MethodName)) ∈ zB := zB_mem (List.mem_of_getElem? (i := 387) rfl) rfl
set_option maxRecDepth 100000 in
theorem co_S_oldestToTake : (Jvm.Cond.code ({ cls := "SharerHome", name := "oldestToTake", desc := "()I" } : Jvm.MethodName) prog_1_method_22_code (2 : Nat) (Option.some Jvm.ClassFile.FieldType.int)) ∈ zB := zB_mem (List.mem_of_getElem? (i := 388) rfl) rfl
set_option maxRecDepth 100000 in
theorem cl_L_10 : (Jvm.Cond.classLink "SharerHomeLaw" (10 : Nat) "SharerHomeModel") ∈ zB := zB_mem (List.mem_of_getElem? (i := 389) rfl) rfl
set_option maxRecDepth 100000 in
theorem is_M : (Jvm.Cond.instantiable "SharerHomeModel" (23 : Nat)) ∈ zB := zB_mem (List.mem_of_getElem? (i := 390) rfl) rfl
set_option maxRecDepth 100000 in
theorem ml_L_12 : (Jvm.Cond.methodLink "SharerHomeLaw" (12 : Nat) ({ cls := "SharerHomeModel", name := "<init>", desc := "()V" } : Jvm.MethodName)) ∈ zB := zB_mem (List.mem_of_getElem? (i := 391) rfl) rfl
set_option maxRecDepth 100000 in
theorem im_M_init : (Jvm.Cond.instanceMethod ({ cls := "SharerHomeModel", name := "<init>", desc := "()V" } : Jvm.MethodName)) ∈ zB := zB_mem (List.mem_of_getElem? (i := 392) rfl) rfl
set_option maxRecDepth 100000 in
theorem co_M_init : (Jvm.Cond.code ({ cls := "SharerHomeModel", name := "<init>", desc := "()V" } : Jvm.MethodName) prog_6_method_1_code (1 : Nat) (Option.none : Option Jvm.ClassFile.FieldType)) ∈ zB := zB_mem (List.mem_of_getElem? (i := 393) rfl) rfl
set_option maxRecDepth 100000 in
theorem ml_M_1 : (Jvm.Cond.methodLink "SharerHomeModel" (1 : Nat) ({ cls := "java/lang/Object", name := "<init>", desc := "()V" } : Jvm.MethodName)) ∈ zB := zB_mem (List.mem_of_getElem? (i := 394) rfl) rfl
set_option maxRecDepth 100000 in
theorem fl_M_7 : (Jvm.Cond.fieldLink "SharerHomeModel" (7 : Nat) "SharerHomeModel" "copy" "[I") ∈ zB := zB_mem (List.mem_of_getElem? (i := 395) rfl) rfl
set_option maxRecDepth 100000 in
theorem fl_M_13 : (Jvm.Cond.fieldLink "SharerHomeModel" (13 : Nat) "SharerHomeModel" "content" "[I") ∈ zB := zB_mem (List.mem_of_getElem? (i := 396) rfl) rfl
set_option maxRecDepth 100000 in
theorem fl_M_16 : (Jvm.Cond.fieldLink "SharerHomeModel" (16 : Nat) "SharerHomeModel" "needed" "[I") ∈ zB := zB_mem (List.mem_of_getElem? (i := 397) rfl) rfl
set_option maxRecDepth 100000 in
theorem fl_M_19 : (Jvm.Cond.fieldLink "SharerHomeModel" (19 : Nat) "SharerHomeModel" "got" "[I") ∈ zB := zB_mem (List.mem_of_getElem? (i := 398) rfl) rfl
set_option maxRecDepth 100000 in
theorem fl_M_22 : (Jvm.Cond.fieldLink "SharerHomeModel" (22 : Nat) "SharerHomeModel" "sentSince" "[I") ∈ zB := zB_mem (List.mem_of_getElem? (i := 399) rfl) rfl
set_option maxRecDepth 100000 in
theorem fl_M_25 : (Jvm.Cond.fieldLink "SharerHomeModel" (25 : Nat) "SharerHomeModel" "waiting" "[Z") ∈ zB := zB_mem (List.mem_of_getElem? (i := 400) rfl) rfl
set_option maxRecDepth 100000 in
theorem fl_M_29 : (Jvm.Cond.fieldLink "SharerHomeModel" (29 : Nat) "SharerHomeModel" "forLine" "[I") ∈ zB := zB_mem (List.mem_of_getElem? (i := 401) rfl) rfl
set_option maxRecDepth 100000 in
theorem fl_M_32 : (Jvm.Cond.fieldLink "SharerHomeModel" (32 : Nat) "SharerHomeModel" "operation" "[I") ∈ zB := zB_mem (List.mem_of_getElem? (i := 402) rfl) rfl
set_option maxRecDepth 100000 in
theorem fl_M_35 : (Jvm.Cond.fieldLink "SharerHomeModel" (35 : Nat) "SharerHomeModel" "operand" "[I") ∈ zB := zB_mem (List.mem_of_getElem? (i := 403) rfl) rfl
set_option maxRecDepth 100000 in
theorem fl_M_38 : (Jvm.Cond.fieldLink "SharerHomeModel" (38 : Nat) "SharerHomeModel" "finished" "[I") ∈ zB := zB_mem (List.mem_of_getElem? (i := 404) rfl) rfl
set_option maxRecDepth 100000 in
theorem fl_M_41 : (Jvm.Cond.fieldLink "SharerHomeModel" (41 : Nat) "SharerHomeModel" "latest" "[I") ∈ zB := zB_mem (List.mem_of_getElem? (i := 405) rfl) rfl
set_option maxRecDepth 100000 in
theorem fl_M_44 : (Jvm.Cond.fieldLink "SharerHomeModel" (44 : Nat) "SharerHomeModel" "keeping" "[I") ∈ zB := zB_mem (List.mem_of_getElem? (i := 406) rfl) rfl
set_option maxRecDepth 100000 in
theorem fl_M_47 : (Jvm.Cond.fieldLink "SharerHomeModel" (47 : Nat) "SharerHomeModel" "owner" "[I") ∈ zB := zB_mem (List.mem_of_getElem? (i := 407) rfl) rfl
set_option maxRecDepth 100000 in
theorem fl_M_50 : (Jvm.Cond.fieldLink "SharerHomeModel" (50 : Nat) "SharerHomeModel" "sharers" "[I") ∈ zB := zB_mem (List.mem_of_getElem? (i := 408) rfl) rfl
set_option maxRecDepth 100000 in
theorem fl_M_53 : (Jvm.Cond.fieldLink "SharerHomeModel" (53 : Nat) "SharerHomeModel" "cells" "[I") ∈ zB := zB_mem (List.mem_of_getElem? (i := 409) rfl) rfl
set_option maxRecDepth 100000 in
theorem fl_M_81 : (Jvm.Cond.fieldLink "SharerHomeModel" (81 : Nat) "SharerHomeModel" "rows" "I") ∈ zB := zB_mem (List.mem_of_getElem? (i := 410) rfl) rfl
set_option maxRecDepth 100000 in
theorem fl_M_56 : (Jvm.Cond.fieldLink "SharerHomeModel" (56 : Nat) "SharerHomeModel" "kind" "[I") ∈ zB := zB_mem (List.mem_of_getElem? (i := 411) rfl) rfl
set_option maxRecDepth 100000 in
theorem fl_M_59 : (Jvm.Cond.fieldLink "SharerHomeModel" (59 : Nat) "SharerHomeModel" "about" "[I") ∈ zB := zB_mem (List.mem_of_getElem? (i := 412) rfl) rfl
set_option maxRecDepth 100000 in
theorem fl_M_62 : (Jvm.Cond.fieldLink "SharerHomeModel" (62 : Nat) "SharerHomeModel" "sender" "[I") ∈ zB := zB_mem (List.mem_of_getElem? (i := 413) rfl) rfl
set_option maxRecDepth 100000 in
theorem fl_M_65 : (Jvm.Cond.fieldLink "SharerHomeModel" (65 : Nat) "SharerHomeModel" "receiver" "[I") ∈ zB := zB_mem (List.mem_of_getElem? (i := 414) rfl) rfl
set_option maxRecDepth 100000 in
theorem fl_M_68 : (Jvm.Cond.fieldLink "SharerHomeModel" (68 : Nat) "SharerHomeModel" "requester" "[I") ∈ zB := zB_mem (List.mem_of_getElem? (i := 415) rfl) rfl
set_option maxRecDepth 100000 in
theorem fl_M_71 : (Jvm.Cond.fieldLink "SharerHomeModel" (71 : Nat) "SharerHomeModel" "number" "[I") ∈ zB := zB_mem (List.mem_of_getElem? (i := 416) rfl) rfl
set_option maxRecDepth 100000 in
theorem fl_M_74 : (Jvm.Cond.fieldLink "SharerHomeModel" (74 : Nat) "SharerHomeModel" "burden" "[I") ∈ zB := zB_mem (List.mem_of_getElem? (i := 417) rfl) rfl
set_option maxRecDepth 100000 in
theorem ac_boolean : (Jvm.Cond.arrayClass Jvm.ClassFile.FieldType.boolean) ∈ zB := zB_mem (List.mem_of_getElem? (i := 465) rfl) rfl
set_option maxRecDepth 100000 in
theorem ml_L_17 : (Jvm.Cond.methodLink "SharerHomeLaw" (17 : Nat) ({ cls := "SharerHomeModel", name := "load", desc := "(II)I" } : Jvm.MethodName)) ∈ zB := zB_mem (List.mem_of_getElem? (i := 466) rfl) rfl
set_option maxRecDepth 100000 in
theorem im_M_load : (Jvm.Cond.instanceMethod ({ cls := "SharerHomeModel", name := "load", desc := "(II)I" } : Jvm.MethodName)) ∈ zB := zB_mem (List.mem_of_getElem? (i := 467) rfl) rfl
set_option maxRecDepth 100000 in
theorem se_M_load : (Jvm.Cond.selects "SharerHomeModel" ({ cls := "SharerHomeModel", name := "load", desc := "(II)I" } : Jvm.MethodName) ({ cls := "SharerHomeModel", name := "load", desc := "(II)I" } : Jvm.MethodName)) ∈ zB := zB_mem (List.mem_of_getElem? (i := 468) rfl) rfl
set_option maxRecDepth 100000 in
theorem co_M_load : (Jvm.Cond.code ({ cls := "SharerHomeModel", name := "load", desc := "(II)I" } : Jvm.MethodName) prog_6_method_19_code (3 : Nat) (Option.some Jvm.ClassFile.FieldType.int)) ∈ zB := zB_mem (List.mem_of_getElem? (i := 469) rfl) rfl
set_option maxRecDepth 100000 in
theorem ml_M_142 : (Jvm.Cond.methodLink "SharerHomeModel" (142 : Nat) ({ cls := "SharerHomeModel", name := "start", desc := "(IIII)I" } : Jvm.MethodName)) ∈ zB := zB_mem (List.mem_of_getElem? (i := 470) rfl) rfl
set_option maxRecDepth 100000 in
theorem im_M_start : (Jvm.Cond.instanceMethod ({ cls := "SharerHomeModel", name := "start", desc := "(IIII)I" } : Jvm.MethodName)) ∈ zB := zB_mem (List.mem_of_getElem? (i := 472) rfl) rfl
set_option maxRecDepth 100000 in
theorem co_M_start : (Jvm.Cond.code ({ cls := "SharerHomeModel", name := "start", desc := "(IIII)I" } : Jvm.MethodName) prog_6_method_18_code (6 : Nat) (Option.some Jvm.ClassFile.FieldType.int)) ∈ zB := zB_mem (List.mem_of_getElem? (i := 473) rfl) rfl
set_option maxRecDepth 100000 in
theorem ml_M_139 : (Jvm.Cond.methodLink "SharerHomeModel" (139 : Nat) ({ cls := "SharerHomeModel", name := "isFour", desc := "(I)Z" } : Jvm.MethodName)) ∈ zB := zB_mem (List.mem_of_getElem? (i := 474) rfl) rfl
set_option maxRecDepth 100000 in
theorem sc_M_isFour : (Jvm.Cond.static ({ cls := "SharerHomeModel", name := "isFour", desc := "(I)Z" } : Jvm.MethodName)) ∈ zB := zB_mem (List.mem_of_getElem? (i := 475) rfl) rfl
set_option maxRecDepth 100000 in
theorem co_M_isFour : (Jvm.Cond.code ({ cls := "SharerHomeModel", name := "isFour", desc := "(I)Z" } : Jvm.MethodName) prog_6_method_2_code (1 : Nat) (Option.some Jvm.ClassFile.FieldType.boolean)) ∈ zB := zB_mem (List.mem_of_getElem? (i := 476) rfl) rfl
set_option maxRecDepth 100000 in
theorem ml_M_136 : (Jvm.Cond.methodLink "SharerHomeModel" (136 : Nat) ({ cls := "SharerHomeModel", name := "finish", desc := "(II)V" } : Jvm.MethodName)) ∈ zB := zB_mem (List.mem_of_getElem? (i := 477) rfl) rfl
set_option maxRecDepth 100000 in
theorem im_M_finish : (Jvm.Cond.instanceMethod ({ cls := "SharerHomeModel", name := "finish", desc := "(II)V" } : Jvm.MethodName)) ∈ zB := zB_mem (List.mem_of_getElem? (i := 479) rfl) rfl
set_option maxRecDepth 100000 in
theorem co_M_finish : (Jvm.Cond.code ({ cls := "SharerHomeModel", name := "finish", desc := "(II)V" } : Jvm.MethodName) prog_6_method_17_code (5 : Nat) (Option.none : Option Jvm.ClassFile.FieldType)) ∈ zB := zB_mem (List.mem_of_getElem? (i := 480) rfl) rfl
set_option maxRecDepth 100000 in
theorem ml_M_130 : (Jvm.Cond.methodLink "SharerHomeModel" (130 : Nat) ({ cls := "SharerHomeModel", name := "send", desc := "(IIIIII)V" } : Jvm.MethodName)) ∈ zB := zB_mem (List.mem_of_getElem? (i := 481) rfl) rfl
set_option maxRecDepth 100000 in
theorem im_M_send : (Jvm.Cond.instanceMethod ({ cls := "SharerHomeModel", name := "send", desc := "(IIIIII)V" } : Jvm.MethodName)) ∈ zB := zB_mem (List.mem_of_getElem? (i := 483) rfl) rfl
set_option maxRecDepth 100000 in
theorem co_M_send : (Jvm.Cond.code ({ cls := "SharerHomeModel", name := "send", desc := "(IIIIII)V" } : Jvm.MethodName) prog_6_method_3_code (7 : Nat) (Option.none : Option Jvm.ClassFile.FieldType)) ∈ zB := zB_mem (List.mem_of_getElem? (i := 484) rfl) rfl
set_option maxRecDepth 100000 in
theorem ml_M_77 : (Jvm.Cond.methodLink "SharerHomeModel" (77 : Nat) ({ cls := "SharerHomeModel", name := "sendWith", desc := "(IIIIIII)V" } : Jvm.MethodName)) ∈ zB := zB_mem (List.mem_of_getElem? (i := 485) rfl) rfl
set_option maxRecDepth 100000 in
theorem im_M_sendWith : (Jvm.Cond.instanceMethod ({ cls := "SharerHomeModel", name := "sendWith", desc := "(IIIIIII)V" } : Jvm.MethodName)) ∈ zB := zB_mem (List.mem_of_getElem? (i := 487) rfl) rfl
set_option maxRecDepth 100000 in
theorem co_M_sendWith : (Jvm.Cond.code ({ cls := "SharerHomeModel", name := "sendWith", desc := "(IIIIIII)V" } : Jvm.MethodName) prog_6_method_4_code (8 : Nat) (Option.none : Option Jvm.ClassFile.FieldType)) ∈ zB := zB_mem (List.mem_of_getElem? (i := 488) rfl) rfl
set_option maxRecDepth 100000 in
theorem ml_L_22 : (Jvm.Cond.methodLink "SharerHomeLaw" (22 : Nat) ({ cls := "SharerHomeModel", name := "store", desc := "(III)I" } : Jvm.MethodName)) ∈ zB := zB_mem (List.mem_of_getElem? (i := 489) rfl) rfl
set_option maxRecDepth 100000 in
theorem im_M_store : (Jvm.Cond.instanceMethod ({ cls := "SharerHomeModel", name := "store", desc := "(III)I" } : Jvm.MethodName)) ∈ zB := zB_mem (List.mem_of_getElem? (i := 490) rfl) rfl
set_option maxRecDepth 100000 in
theorem se_M_store : (Jvm.Cond.selects "SharerHomeModel" ({ cls := "SharerHomeModel", name := "store", desc := "(III)I" } : Jvm.MethodName) ({ cls := "SharerHomeModel", name := "store", desc := "(III)I" } : Jvm.MethodName)) ∈ zB := zB_mem (List.mem_of_getElem? (i := 491) rfl) rfl
set_option maxRecDepth 100000 in
theorem co_M_store : (Jvm.Cond.code ({ cls := "SharerHomeModel", name := "store", desc := "(III)I" } : Jvm.MethodName) prog_6_method_20_code (4 : Nat) (Option.some Jvm.ClassFile.FieldType.int)) ∈ zB := zB_mem (List.mem_of_getElem? (i := 492) rfl) rfl
set_option maxRecDepth 100000 in
theorem ml_L_26 : (Jvm.Cond.methodLink "SharerHomeLaw" (26 : Nat) ({ cls := "SharerHomeModel", name := "add", desc := "(III)I" } : Jvm.MethodName)) ∈ zB := zB_mem (List.mem_of_getElem? (i := 493) rfl) rfl
set_option maxRecDepth 100000 in
theorem im_M_add : (Jvm.Cond.instanceMethod ({ cls := "SharerHomeModel", name := "add", desc := "(III)I" } : Jvm.MethodName)) ∈ zB := zB_mem (List.mem_of_getElem? (i := 494) rfl) rfl
set_option maxRecDepth 100000 in
theorem se_M_add : (Jvm.Cond.selects "SharerHomeModel" ({ cls := "SharerHomeModel", name := "add", desc := "(III)I" } : Jvm.MethodName) ({ cls := "SharerHomeModel", name := "add", desc := "(III)I" } : Jvm.MethodName)) ∈ zB := zB_mem (List.mem_of_getElem? (i := 495) rfl) rfl
set_option maxRecDepth 100000 in
theorem co_M_add : (Jvm.Cond.code ({ cls := "SharerHomeModel", name := "add", desc := "(III)I" } : Jvm.MethodName) prog_6_method_21_code (4 : Nat) (Option.some Jvm.ClassFile.FieldType.int)) ∈ zB := zB_mem (List.mem_of_getElem? (i := 496) rfl) rfl
set_option maxRecDepth 100000 in
theorem ml_L_30 : (Jvm.Cond.methodLink "SharerHomeLaw" (30 : Nat) ({ cls := "SharerHomeModel", name := "leave", desc := "(II)I" } : Jvm.MethodName)) ∈ zB := zB_mem (List.mem_of_getElem? (i := 497) rfl) rfl
set_option maxRecDepth 100000 in
theorem im_M_leave : (Jvm.Cond.instanceMethod ({ cls := "SharerHomeModel", name := "leave", desc := "(II)I" } : Jvm.MethodName)) ∈ zB := zB_mem (List.mem_of_getElem? (i := 498) rfl) rfl
set_option maxRecDepth 100000 in
theorem se_M_leave : (Jvm.Cond.selects "SharerHomeModel" ({ cls := "SharerHomeModel", name := "leave", desc := "(II)I" } : Jvm.MethodName) ({ cls := "SharerHomeModel", name := "leave", desc := "(II)I" } : Jvm.MethodName)) ∈ zB := zB_mem (List.mem_of_getElem? (i := 499) rfl) rfl
set_option maxRecDepth 100000 in
theorem co_M_leave : (Jvm.Cond.code ({ cls := "SharerHomeModel", name := "leave", desc := "(II)I" } : Jvm.MethodName) prog_6_method_22_code (5 : Nat) (Option.some Jvm.ClassFile.FieldType.int)) ∈ zB := zB_mem (List.mem_of_getElem? (i := 500) rfl) rfl
set_option maxRecDepth 100000 in
theorem ml_L_35 : (Jvm.Cond.methodLink "SharerHomeLaw" (35 : Nat) ({ cls := "SharerHomeModel", name := "deliver", desc := "(I)I" } : Jvm.MethodName)) ∈ zB := zB_mem (List.mem_of_getElem? (i := 501) rfl) rfl
set_option maxRecDepth 100000 in
theorem im_M_deliver : (Jvm.Cond.instanceMethod ({ cls := "SharerHomeModel", name := "deliver", desc := "(I)I" } : Jvm.MethodName)) ∈ zB := zB_mem (List.mem_of_getElem? (i := 502) rfl) rfl
set_option maxRecDepth 100000 in
theorem se_M_deliver : (Jvm.Cond.selects "SharerHomeModel" ({ cls := "SharerHomeModel", name := "deliver", desc := "(I)I" } : Jvm.MethodName) ({ cls := "SharerHomeModel", name := "deliver", desc := "(I)I" } : Jvm.MethodName)) ∈ zB := zB_mem (List.mem_of_getElem? (i := 503) rfl) rfl
set_option maxRecDepth 100000 in
theorem co_M_deliver : (Jvm.Cond.code ({ cls := "SharerHomeModel", name := "deliver", desc := "(I)I" } : Jvm.MethodName) prog_6_method_23_code (2 : Nat) (Option.some Jvm.ClassFile.FieldType.int)) ∈ zB := zB_mem (List.mem_of_getElem? (i := 504) rfl) rfl
set_option maxRecDepth 100000 in
theorem ml_M_146 : (Jvm.Cond.methodLink "SharerHomeModel" (146 : Nat) ({ cls := "SharerHomeModel", name := "move", desc := "(I)I" } : Jvm.MethodName)) ∈ zB := zB_mem (List.mem_of_getElem? (i := 505) rfl) rfl
set_option maxRecDepth 100000 in
theorem im_M_move : (Jvm.Cond.instanceMethod ({ cls := "SharerHomeModel", name := "move", desc := "(I)I" } : Jvm.MethodName)) ∈ zB := zB_mem (List.mem_of_getElem? (i := 507) rfl) rfl
set_option maxRecDepth 100000 in
theorem co_M_move : (Jvm.Cond.code ({ cls := "SharerHomeModel", name := "move", desc := "(I)I" } : Jvm.MethodName) prog_6_method_11_code (8 : Nat) (Option.some Jvm.ClassFile.FieldType.int)) ∈ zB := zB_mem (List.mem_of_getElem? (i := 508) rfl) rfl
set_option maxRecDepth 100000 in
theorem ml_M_105 : (Jvm.Cond.methodLink "SharerHomeModel" (105 : Nat) ({ cls := "SharerHomeModel", name := "keptBack", desc := "(I)Z" } : Jvm.MethodName)) ∈ zB := zB_mem (List.mem_of_getElem? (i := 509) rfl) rfl
set_option maxRecDepth 100000 in
theorem im_M_keptBack : (Jvm.Cond.instanceMethod ({ cls := "SharerHomeModel", name := "keptBack", desc := "(I)Z" } : Jvm.MethodName)) ∈ zB := zB_mem (List.mem_of_getElem? (i := 511) rfl) rfl
set_option maxRecDepth 100000 in
theorem co_M_keptBack : (Jvm.Cond.code ({ cls := "SharerHomeModel", name := "keptBack", desc := "(I)Z" } : Jvm.MethodName) prog_6_method_7_code (4 : Nat) (Option.some Jvm.ClassFile.FieldType.boolean)) ∈ zB := zB_mem (List.mem_of_getElem? (i := 512) rfl) rfl
set_option maxRecDepth 100000 in
theorem ml_M_85 : (Jvm.Cond.methodLink "SharerHomeModel" (85 : Nat) ({ cls := "SharerHomeModel", name := "isOrdered", desc := "(I)Z" } : Jvm.MethodName)) ∈ zB := zB_mem (List.mem_of_getElem? (i := 513) rfl) rfl
set_option maxRecDepth 100000 in
theorem sc_M_isOrdered : (Jvm.Cond.static ({ cls := "SharerHomeModel", name := "isOrdered", desc := "(I)Z" } : Jvm.MethodName)) ∈ zB := zB_mem (List.mem_of_getElem? (i := 514) rfl) rfl
set_option maxRecDepth 100000 in
theorem co_M_isOrdered : (Jvm.Cond.code ({ cls := "SharerHomeModel", name := "isOrdered", desc := "(I)Z" } : Jvm.MethodName) prog_6_method_6_code (1 : Nat) (Option.some Jvm.ClassFile.FieldType.boolean)) ∈ zB := zB_mem (List.mem_of_getElem? (i := 515) rfl) rfl
set_option maxRecDepth 100000 in
theorem ml_M_108 : (Jvm.Cond.methodLink "SharerHomeModel" (108 : Nat) ({ cls := "SharerHomeModel", name := "stalls", desc := "(I)Z" } : Jvm.MethodName)) ∈ zB := zB_mem (List.mem_of_getElem? (i := 516) rfl) rfl
set_option maxRecDepth 100000 in
theorem im_M_stalls : (Jvm.Cond.instanceMethod ({ cls := "SharerHomeModel", name := "stalls", desc := "(I)Z" } : Jvm.MethodName)) ∈ zB := zB_mem (List.mem_of_getElem? (i := 518) rfl) rfl
set_option maxRecDepth 100000 in
theorem co_M_stalls : (Jvm.Cond.code ({ cls := "SharerHomeModel", name := "stalls", desc := "(I)Z" } : Jvm.MethodName) prog_6_method_10_code (2 : Nat) (Option.some Jvm.ClassFile.FieldType.boolean)) ∈ zB := zB_mem (List.mem_of_getElem? (i := 519) rfl) rfl
set_option maxRecDepth 100000 in
theorem ml_M_101 : (Jvm.Cond.methodLink "SharerHomeModel" (101 : Nat) ({ cls := "SharerHomeModel", name := "becomes", desc := "(II)I" } : Jvm.MethodName)) ∈ zB := zB_mem (List.mem_of_getElem? (i := 520) rfl) rfl
set_option maxRecDepth 100000 in
theorem sc_M_becomes : (Jvm.Cond.static ({ cls := "SharerHomeModel", name := "becomes", desc := "(II)I" } : Jvm.MethodName)) ∈ zB := zB_mem (List.mem_of_getElem? (i := 521) rfl) rfl
set_option maxRecDepth 100000 in
theorem co_M_becomes : (Jvm.Cond.code ({ cls := "SharerHomeModel", name := "becomes", desc := "(II)I" } : Jvm.MethodName) prog_6_method_9_code (2 : Nat) (Option.some Jvm.ClassFile.FieldType.int)) ∈ zB := zB_mem (List.mem_of_getElem? (i := 522) rfl) rfl
set_option maxRecDepth 100000 in
theorem kl_M_91 : (Jvm.Cond.constantLong "SharerHomeModel" (91 : Nat) (3584133028581648 : Int64)) ∈ zB := zB_mem (List.mem_of_getElem? (i := 523) rfl) rfl
set_option maxRecDepth 100000 in
theorem ml_M_93 : (Jvm.Cond.methodLink "SharerHomeModel" (93 : Nat) ({ cls := "SharerHomeModel", name := "digit", desc := "(JI)I" } : Jvm.MethodName)) ∈ zB := zB_mem (List.mem_of_getElem? (i := 524) rfl) rfl
set_option maxRecDepth 100000 in
theorem sc_M_digit : (Jvm.Cond.static ({ cls := "SharerHomeModel", name := "digit", desc := "(JI)I" } : Jvm.MethodName)) ∈ zB := zB_mem (List.mem_of_getElem? (i := 525) rfl) rfl
set_option maxRecDepth 100000 in
theorem co_M_digit : (Jvm.Cond.code ({ cls := "SharerHomeModel", name := "digit", desc := "(JI)I" } : Jvm.MethodName) prog_6_method_8_code (3 : Nat) (Option.some Jvm.ClassFile.FieldType.int)) ∈ zB := zB_mem (List.mem_of_getElem? (i := 526) rfl) rfl
set_option maxRecDepth 100000 in
theorem kl_M_89 : (Jvm.Cond.constantLong "SharerHomeModel" (89 : Nat) (15 : Int64)) ∈ zB := zB_mem (List.mem_of_getElem? (i := 527) rfl) rfl
set_option maxRecDepth 100000 in
theorem kl_M_97 : (Jvm.Cond.constantLong "SharerHomeModel" (97 : Nat) (3585301259681808 : Int64)) ∈ zB := zB_mem (List.mem_of_getElem? (i := 528) rfl) rfl
set_option maxRecDepth 100000 in
theorem kl_M_99 : (Jvm.Cond.constantLong "SharerHomeModel" (99 : Nat) (3600455353446912 : Int64)) ∈ zB := zB_mem (List.mem_of_getElem? (i := 529) rfl) rfl
set_option maxRecDepth 100000 in
theorem ml_M_111 : (Jvm.Cond.methodLink "SharerHomeModel" (111 : Nat) ({ cls := "SharerHomeModel", name := "strike", desc := "(I)V" } : Jvm.MethodName)) ∈ zB := zB_mem (List.mem_of_getElem? (i := 530) rfl) rfl
set_option maxRecDepth 100000 in
theorem im_M_strike : (Jvm.Cond.instanceMethod ({ cls := "SharerHomeModel", name := "strike", desc := "(I)V" } : Jvm.MethodName)) ∈ zB := zB_mem (List.mem_of_getElem? (i := 532) rfl) rfl
set_option maxRecDepth 100000 in
theorem co_M_strike : (Jvm.Cond.code ({ cls := "SharerHomeModel", name := "strike", desc := "(I)V" } : Jvm.MethodName) prog_6_method_5_code (3 : Nat) (Option.none : Option Jvm.ClassFile.FieldType)) ∈ zB := zB_mem (List.mem_of_getElem? (i := 533) rfl) rfl
set_option maxRecDepth 100000 in
theorem ml_M_115 : (Jvm.Cond.methodLink "SharerHomeModel" (115 : Nat) ({ cls := "SharerHomeModel", name := "toCore", desc := "(IIIIII)V" } : Jvm.MethodName)) ∈ zB := zB_mem (List.mem_of_getElem? (i := 534) rfl) rfl
set_option maxRecDepth 100000 in
theorem im_M_toCore : (Jvm.Cond.instanceMethod ({ cls := "SharerHomeModel", name := "toCore", desc := "(IIIIII)V" } : Jvm.MethodName)) ∈ zB := zB_mem (List.mem_of_getElem? (i := 536) rfl) rfl
set_option maxRecDepth 100000 in
theorem co_M_toCore : (Jvm.Cond.code ({ cls := "SharerHomeModel", name := "toCore", desc := "(IIIIII)V" } : Jvm.MethodName) prog_6_method_15_code (11 : Nat) (Option.none : Option Jvm.ClassFile.FieldType)) ∈ zB := zB_mem (List.mem_of_getElem? (i := 537) rfl) rfl
set_option maxRecDepth 100000 in
theorem ml_M_133 : (Jvm.Cond.methodLink "SharerHomeModel" (133 : Nat) ({ cls := "SharerHomeModel", name := "acknowledged", desc := "(II)V" } : Jvm.MethodName)) ∈ zB := zB_mem (List.mem_of_getElem? (i := 538) rfl) rfl
set_option maxRecDepth 100000 in
theorem im_M_acknowledged : (Jvm.Cond.instanceMethod ({ cls := "SharerHomeModel", name := "acknowledged", desc := "(II)V" } : Jvm.MethodName)) ∈ zB := zB_mem (List.mem_of_getElem? (i := 540) rfl) rfl
set_option maxRecDepth 100000 in
theorem co_M_acknowledged : (Jvm.Cond.code ({ cls := "SharerHomeModel", name := "acknowledged", desc := "(II)V" } : Jvm.MethodName) prog_6_method_16_code (4 : Nat) (Option.none : Option Jvm.ClassFile.FieldType)) ∈ zB := zB_mem (List.mem_of_getElem? (i := 541) rfl) rfl
set_option maxRecDepth 100000 in
theorem ml_M_119 : (Jvm.Cond.methodLink "SharerHomeModel" (119 : Nat) ({ cls := "SharerHomeModel", name := "toRead", desc := "(II)V" } : Jvm.MethodName)) ∈ zB := zB_mem (List.mem_of_getElem? (i := 542) rfl) rfl
set_option maxRecDepth 100000 in
theorem im_M_toRead : (Jvm.Cond.instanceMethod ({ cls := "SharerHomeModel", name := "toRead", desc := "(II)V" } : Jvm.MethodName)) ∈ zB := zB_mem (List.mem_of_getElem? (i := 544) rfl) rfl
set_option maxRecDepth 100000 in
theorem co_M_toRead : (Jvm.Cond.code ({ cls := "SharerHomeModel", name := "toRead", desc := "(II)V" } : Jvm.MethodName) prog_6_method_12_code (3 : Nat) (Option.none : Option Jvm.ClassFile.FieldType)) ∈ zB := zB_mem (List.mem_of_getElem? (i := 545) rfl) rfl
set_option maxRecDepth 100000 in
theorem ml_M_123 : (Jvm.Cond.methodLink "SharerHomeModel" (123 : Nat) ({ cls := "SharerHomeModel", name := "toWrite", desc := "(II)V" } : Jvm.MethodName)) ∈ zB := zB_mem (List.mem_of_getElem? (i := 546) rfl) rfl
set_option maxRecDepth 100000 in
theorem im_M_toWrite : (Jvm.Cond.instanceMethod ({ cls := "SharerHomeModel", name := "toWrite", desc := "(II)V" } : Jvm.MethodName)) ∈ zB := zB_mem (List.mem_of_getElem? (i := 548) rfl) rfl
set_option maxRecDepth 100000 in
theorem co_M_toWrite : (Jvm.Cond.code ({ cls := "SharerHomeModel", name := "toWrite", desc := "(II)V" } : Jvm.MethodName) prog_6_method_13_code (5 : Nat) (Option.none : Option Jvm.ClassFile.FieldType)) ∈ zB := zB_mem (List.mem_of_getElem? (i := 549) rfl) rfl
set_option maxRecDepth 100000 in
theorem ml_M_126 : (Jvm.Cond.methodLink "SharerHomeModel" (126 : Nat) ({ cls := "SharerHomeModel", name := "toLeave", desc := "(IIII)V" } : Jvm.MethodName)) ∈ zB := zB_mem (List.mem_of_getElem? (i := 550) rfl) rfl
set_option maxRecDepth 100000 in
theorem im_M_toLeave : (Jvm.Cond.instanceMethod ({ cls := "SharerHomeModel", name := "toLeave", desc := "(IIII)V" } : Jvm.MethodName)) ∈ zB := zB_mem (List.mem_of_getElem? (i := 552) rfl) rfl
set_option maxRecDepth 100000 in
theorem co_M_toLeave : (Jvm.Cond.code ({ cls := "SharerHomeModel", name := "toLeave", desc := "(IIII)V" } : Jvm.MethodName) prog_6_method_14_code (5 : Nat) (Option.none : Option Jvm.ClassFile.FieldType)) ∈ zB := zB_mem (List.mem_of_getElem? (i := 553) rfl) rfl
set_option maxRecDepth 100000 in
theorem ml_L_39 : (Jvm.Cond.methodLink "SharerHomeLaw" (39 : Nat) ({ cls := "SharerHomeModel", name := "message", desc := "(II)I" } : Jvm.MethodName)) ∈ zB := zB_mem (List.mem_of_getElem? (i := 554) rfl) rfl
set_option maxRecDepth 100000 in
theorem im_M_message : (Jvm.Cond.instanceMethod ({ cls := "SharerHomeModel", name := "message", desc := "(II)I" } : Jvm.MethodName)) ∈ zB := zB_mem (List.mem_of_getElem? (i := 555) rfl) rfl
set_option maxRecDepth 100000 in
theorem se_M_message : (Jvm.Cond.selects "SharerHomeModel" ({ cls := "SharerHomeModel", name := "message", desc := "(II)I" } : Jvm.MethodName) ({ cls := "SharerHomeModel", name := "message", desc := "(II)I" } : Jvm.MethodName)) ∈ zB := zB_mem (List.mem_of_getElem? (i := 556) rfl) rfl
set_option maxRecDepth 100000 in
theorem co_M_message : (Jvm.Cond.code ({ cls := "SharerHomeModel", name := "message", desc := "(II)I" } : Jvm.MethodName) prog_6_method_24_code (3 : Nat) (Option.some Jvm.ClassFile.FieldType.int)) ∈ zB := zB_mem (List.mem_of_getElem? (i := 557) rfl) rfl
set_option maxRecDepth 100000 in
theorem ml_L_43 : (Jvm.Cond.methodLink "SharerHomeLaw" (43 : Nat) ({ cls := "SharerHomeModel", name := "carried", desc := "(I)I" } : Jvm.MethodName)) ∈ zB := zB_mem (List.mem_of_getElem? (i := 558) rfl) rfl
set_option maxRecDepth 100000 in
theorem im_M_carried : (Jvm.Cond.instanceMethod ({ cls := "SharerHomeModel", name := "carried", desc := "(I)I" } : Jvm.MethodName)) ∈ zB := zB_mem (List.mem_of_getElem? (i := 559) rfl) rfl
set_option maxRecDepth 100000 in
theorem se_M_carried : (Jvm.Cond.selects "SharerHomeModel" ({ cls := "SharerHomeModel", name := "carried", desc := "(I)I" } : Jvm.MethodName) ({ cls := "SharerHomeModel", name := "carried", desc := "(I)I" } : Jvm.MethodName)) ∈ zB := zB_mem (List.mem_of_getElem? (i := 560) rfl) rfl
set_option maxRecDepth 100000 in
theorem co_M_carried : (Jvm.Cond.code ({ cls := "SharerHomeModel", name := "carried", desc := "(I)I" } : Jvm.MethodName) prog_6_method_25_code (2 : Nat) (Option.some Jvm.ClassFile.FieldType.int)) ∈ zB := zB_mem (List.mem_of_getElem? (i := 561) rfl) rfl
set_option maxRecDepth 100000 in
theorem ml_L_47 : (Jvm.Cond.methodLink "SharerHomeLaw" (47 : Nat) ({ cls := "SharerHomeModel", name := "state", desc := "(II)I" } : Jvm.MethodName)) ∈ zB := zB_mem (List.mem_of_getElem? (i := 562) rfl) rfl
set_option maxRecDepth 100000 in
theorem im_M_state : (Jvm.Cond.instanceMethod ({ cls := "SharerHomeModel", name := "state", desc := "(II)I" } : Jvm.MethodName)) ∈ zB := zB_mem (List.mem_of_getElem? (i := 563) rfl) rfl
set_option maxRecDepth 100000 in
theorem se_M_state : (Jvm.Cond.selects "SharerHomeModel" ({ cls := "SharerHomeModel", name := "state", desc := "(II)I" } : Jvm.MethodName) ({ cls := "SharerHomeModel", name := "state", desc := "(II)I" } : Jvm.MethodName)) ∈ zB := zB_mem (List.mem_of_getElem? (i := 564) rfl) rfl
set_option maxRecDepth 100000 in
theorem co_M_state : (Jvm.Cond.code ({ cls := "SharerHomeModel", name := "state", desc := "(II)I" } : Jvm.MethodName) prog_6_method_26_code (3 : Nat) (Option.some Jvm.ClassFile.FieldType.int)) ∈ zB := zB_mem (List.mem_of_getElem? (i := 565) rfl) rfl
set_option maxRecDepth 100000 in
theorem ml_L_51 : (Jvm.Cond.methodLink "SharerHomeLaw" (51 : Nat) ({ cls := "SharerHomeModel", name := "value", desc := "(II)I" } : Jvm.MethodName)) ∈ zB := zB_mem (List.mem_of_getElem? (i := 566) rfl) rfl
set_option maxRecDepth 100000 in
theorem im_M_value : (Jvm.Cond.instanceMethod ({ cls := "SharerHomeModel", name := "value", desc := "(II)I" } : Jvm.MethodName)) ∈ zB := zB_mem (List.mem_of_getElem? (i := 567) rfl) rfl
set_option maxRecDepth 100000 in
theorem se_M_value : (Jvm.Cond.selects "SharerHomeModel" ({ cls := "SharerHomeModel", name := "value", desc := "(II)I" } : Jvm.MethodName) ({ cls := "SharerHomeModel", name := "value", desc := "(II)I" } : Jvm.MethodName)) ∈ zB := zB_mem (List.mem_of_getElem? (i := 568) rfl) rfl
set_option maxRecDepth 100000 in
theorem co_M_value : (Jvm.Cond.code ({ cls := "SharerHomeModel", name := "value", desc := "(II)I" } : Jvm.MethodName) prog_6_method_27_code (4 : Nat) (Option.some Jvm.ClassFile.FieldType.int)) ∈ zB := zB_mem (List.mem_of_getElem? (i := 569) rfl) rfl
set_option maxRecDepth 100000 in
theorem ml_L_55 : (Jvm.Cond.methodLink "SharerHomeLaw" (55 : Nat) ({ cls := "SharerHomeModel", name := "due", desc := "(II)I" } : Jvm.MethodName)) ∈ zB := zB_mem (List.mem_of_getElem? (i := 570) rfl) rfl
set_option maxRecDepth 100000 in
theorem im_M_due : (Jvm.Cond.instanceMethod ({ cls := "SharerHomeModel", name := "due", desc := "(II)I" } : Jvm.MethodName)) ∈ zB := zB_mem (List.mem_of_getElem? (i := 571) rfl) rfl
set_option maxRecDepth 100000 in
theorem se_M_due : (Jvm.Cond.selects "SharerHomeModel" ({ cls := "SharerHomeModel", name := "due", desc := "(II)I" } : Jvm.MethodName) ({ cls := "SharerHomeModel", name := "due", desc := "(II)I" } : Jvm.MethodName)) ∈ zB := zB_mem (List.mem_of_getElem? (i := 572) rfl) rfl
set_option maxRecDepth 100000 in
theorem co_M_due : (Jvm.Cond.code ({ cls := "SharerHomeModel", name := "due", desc := "(II)I" } : Jvm.MethodName) prog_6_method_28_code (5 : Nat) (Option.some Jvm.ClassFile.FieldType.int)) ∈ zB := zB_mem (List.mem_of_getElem? (i := 573) rfl) rfl
set_option maxRecDepth 100000 in
theorem ml_L_59 : (Jvm.Cond.methodLink "SharerHomeLaw" (59 : Nat) ({ cls := "SharerHomeModel", name := "home", desc := "(I)I" } : Jvm.MethodName)) ∈ zB := zB_mem (List.mem_of_getElem? (i := 574) rfl) rfl
set_option maxRecDepth 100000 in
theorem im_M_home : (Jvm.Cond.instanceMethod ({ cls := "SharerHomeModel", name := "home", desc := "(I)I" } : Jvm.MethodName)) ∈ zB := zB_mem (List.mem_of_getElem? (i := 575) rfl) rfl
set_option maxRecDepth 100000 in
theorem se_M_home : (Jvm.Cond.selects "SharerHomeModel" ({ cls := "SharerHomeModel", name := "home", desc := "(I)I" } : Jvm.MethodName) ({ cls := "SharerHomeModel", name := "home", desc := "(I)I" } : Jvm.MethodName)) ∈ zB := zB_mem (List.mem_of_getElem? (i := 576) rfl) rfl
set_option maxRecDepth 100000 in
theorem co_M_home : (Jvm.Cond.code ({ cls := "SharerHomeModel", name := "home", desc := "(I)I" } : Jvm.MethodName) prog_6_method_29_code (3 : Nat) (Option.some Jvm.ClassFile.FieldType.int)) ∈ zB := zB_mem (List.mem_of_getElem? (i := 577) rfl) rfl
set_option maxRecDepth 100000 in
theorem ml_L_63 : (Jvm.Cond.methodLink "SharerHomeLaw" (63 : Nat) ({ cls := "SharerHomeModel", name := "memory", desc := "(I)I" } : Jvm.MethodName)) ∈ zB := zB_mem (List.mem_of_getElem? (i := 578) rfl) rfl
set_option maxRecDepth 100000 in
theorem im_M_memory : (Jvm.Cond.instanceMethod ({ cls := "SharerHomeModel", name := "memory", desc := "(I)I" } : Jvm.MethodName)) ∈ zB := zB_mem (List.mem_of_getElem? (i := 579) rfl) rfl
set_option maxRecDepth 100000 in
theorem se_M_memory : (Jvm.Cond.selects "SharerHomeModel" ({ cls := "SharerHomeModel", name := "memory", desc := "(I)I" } : Jvm.MethodName) ({ cls := "SharerHomeModel", name := "memory", desc := "(I)I" } : Jvm.MethodName)) ∈ zB := zB_mem (List.mem_of_getElem? (i := 580) rfl) rfl
set_option maxRecDepth 100000 in
theorem co_M_memory : (Jvm.Cond.code ({ cls := "SharerHomeModel", name := "memory", desc := "(I)I" } : Jvm.MethodName) prog_6_method_30_code (2 : Nat) (Option.some Jvm.ClassFile.FieldType.int)) ∈ zB := zB_mem (List.mem_of_getElem? (i := 581) rfl) rfl
set_option maxRecDepth 100000 in
theorem ml_L_68 : (Jvm.Cond.methodLink "SharerHomeLaw" (68 : Nat) ({ cls := "SharerHomeModel", name := "waits", desc := "(I)Z" } : Jvm.MethodName)) ∈ zB := zB_mem (List.mem_of_getElem? (i := 582) rfl) rfl
set_option maxRecDepth 100000 in
theorem im_M_waits : (Jvm.Cond.instanceMethod ({ cls := "SharerHomeModel", name := "waits", desc := "(I)Z" } : Jvm.MethodName)) ∈ zB := zB_mem (List.mem_of_getElem? (i := 583) rfl) rfl
set_option maxRecDepth 100000 in
theorem se_M_waits : (Jvm.Cond.selects "SharerHomeModel" ({ cls := "SharerHomeModel", name := "waits", desc := "(I)Z" } : Jvm.MethodName) ({ cls := "SharerHomeModel", name := "waits", desc := "(I)Z" } : Jvm.MethodName)) ∈ zB := zB_mem (List.mem_of_getElem? (i := 584) rfl) rfl
set_option maxRecDepth 100000 in
theorem co_M_waits : (Jvm.Cond.code ({ cls := "SharerHomeModel", name := "waits", desc := "(I)Z" } : Jvm.MethodName) prog_6_method_31_code (2 : Nat) (Option.some Jvm.ClassFile.FieldType.boolean)) ∈ zB := zB_mem (List.mem_of_getElem? (i := 585) rfl) rfl
set_option maxRecDepth 100000 in
theorem ml_L_72 : (Jvm.Cond.methodLink "SharerHomeLaw" (72 : Nat) ({ cls := "SharerHomeModel", name := "done", desc := "(I)I" } : Jvm.MethodName)) ∈ zB := zB_mem (List.mem_of_getElem? (i := 586) rfl) rfl
set_option maxRecDepth 100000 in
theorem im_M_done : (Jvm.Cond.instanceMethod ({ cls := "SharerHomeModel", name := "done", desc := "(I)I" } : Jvm.MethodName)) ∈ zB := zB_mem (List.mem_of_getElem? (i := 587) rfl) rfl
set_option maxRecDepth 100000 in
theorem se_M_done : (Jvm.Cond.selects "SharerHomeModel" ({ cls := "SharerHomeModel", name := "done", desc := "(I)I" } : Jvm.MethodName) ({ cls := "SharerHomeModel", name := "done", desc := "(I)I" } : Jvm.MethodName)) ∈ zB := zB_mem (List.mem_of_getElem? (i := 588) rfl) rfl
set_option maxRecDepth 100000 in
theorem co_M_done : (Jvm.Cond.code ({ cls := "SharerHomeModel", name := "done", desc := "(I)I" } : Jvm.MethodName) prog_6_method_32_code (2 : Nat) (Option.some Jvm.ClassFile.FieldType.int)) ∈ zB := zB_mem (List.mem_of_getElem? (i := 589) rfl) rfl
set_option maxRecDepth 100000 in
theorem ml_L_76 : (Jvm.Cond.methodLink "SharerHomeLaw" (76 : Nat) ({ cls := "SharerHomeModel", name := "result", desc := "(I)I" } : Jvm.MethodName)) ∈ zB := zB_mem (List.mem_of_getElem? (i := 590) rfl) rfl
set_option maxRecDepth 100000 in
theorem im_M_result : (Jvm.Cond.instanceMethod ({ cls := "SharerHomeModel", name := "result", desc := "(I)I" } : Jvm.MethodName)) ∈ zB := zB_mem (List.mem_of_getElem? (i := 591) rfl) rfl
set_option maxRecDepth 100000 in
theorem se_M_result : (Jvm.Cond.selects "SharerHomeModel" ({ cls := "SharerHomeModel", name := "result", desc := "(I)I" } : Jvm.MethodName) ({ cls := "SharerHomeModel", name := "result", desc := "(I)I" } : Jvm.MethodName)) ∈ zB := zB_mem (List.mem_of_getElem? (i := 592) rfl) rfl
set_option maxRecDepth 100000 in
theorem co_M_result : (Jvm.Cond.code ({ cls := "SharerHomeModel", name := "result", desc := "(I)I" } : Jvm.MethodName) prog_6_method_33_code (2 : Nat) (Option.some Jvm.ClassFile.FieldType.int)) ∈ zB := zB_mem (List.mem_of_getElem? (i := 593) rfl) rfl
set_option maxRecDepth 100000 in
theorem ml_L_80 : (Jvm.Cond.methodLink "SharerHomeLaw" (80 : Nat) ({ cls := "SharerHomeModel", name := "tally", desc := "(II)I" } : Jvm.MethodName)) ∈ zB := zB_mem (List.mem_of_getElem? (i := 594) rfl) rfl
set_option maxRecDepth 100000 in
theorem im_M_tally : (Jvm.Cond.instanceMethod ({ cls := "SharerHomeModel", name := "tally", desc := "(II)I" } : Jvm.MethodName)) ∈ zB := zB_mem (List.mem_of_getElem? (i := 595) rfl) rfl
set_option maxRecDepth 100000 in
theorem se_M_tally : (Jvm.Cond.selects "SharerHomeModel" ({ cls := "SharerHomeModel", name := "tally", desc := "(II)I" } : Jvm.MethodName) ({ cls := "SharerHomeModel", name := "tally", desc := "(II)I" } : Jvm.MethodName)) ∈ zB := zB_mem (List.mem_of_getElem? (i := 596) rfl) rfl
set_option maxRecDepth 100000 in
theorem co_M_tally : (Jvm.Cond.code ({ cls := "SharerHomeModel", name := "tally", desc := "(II)I" } : Jvm.MethodName) prog_6_method_34_code (3 : Nat) (Option.some Jvm.ClassFile.FieldType.int)) ∈ zB := zB_mem (List.mem_of_getElem? (i := 597) rfl) rfl
set_option maxRecDepth 100000 in
theorem ml_L_84 : (Jvm.Cond.methodLink "SharerHomeLaw" (84 : Nat) ({ cls := "SharerHomeModel", name := "run", desc := "(I)I" } : Jvm.MethodName)) ∈ zB := zB_mem (List.mem_of_getElem? (i := 598) rfl) rfl
set_option maxRecDepth 100000 in
theorem im_M_run : (Jvm.Cond.instanceMethod ({ cls := "SharerHomeModel", name := "run", desc := "(I)I" } : Jvm.MethodName)) ∈ zB := zB_mem (List.mem_of_getElem? (i := 599) rfl) rfl
set_option maxRecDepth 100000 in
theorem se_M_run : (Jvm.Cond.selects "SharerHomeModel" ({ cls := "SharerHomeModel", name := "run", desc := "(I)I" } : Jvm.MethodName) ({ cls := "SharerHomeModel", name := "run", desc := "(I)I" } : Jvm.MethodName)) ∈ zB := zB_mem (List.mem_of_getElem? (i := 600) rfl) rfl
set_option maxRecDepth 100000 in
theorem co_M_run : (Jvm.Cond.code ({ cls := "SharerHomeModel", name := "run", desc := "(I)I" } : Jvm.MethodName) prog_6_method_35_code (6 : Nat) (Option.some Jvm.ClassFile.FieldType.int)) ∈ zB := zB_mem (List.mem_of_getElem? (i := 601) rfl) rfl
end
section
section ZF
variable {p : Program} {l : Launch} {e : Env} {R : Room} {s : State} {m : MethodId} {args : Array Value} {below : List Frame} {meth : Method} {c : Code} {H : Heap} {locs : List Loc} {cells slots : Nat} {Q : State → Prop}
variable {cc : ByteArray} {nL pc : Nat} {ls : Array Slot} {rest : List Value} {own : String} {dC : Nat → ClassId} {dI : Nat → Nat → Nat} {k : Nat → ClassId} {q : Nat → Nat} {X X' : zXS} {M M' : zMS} {A : Nat → Prop} {H0 : Heap}
theorem zW_core {j0 : Nat} (hj : j0 < 4) : (zW q k X M)[16 + 4 * j0]? = some (q (16 + 4 * j0), .inr (2, zcf q X j0)) := by
  rcases (show j0 = 0 ∨ j0 = 1 ∨ j0 = 2 ∨ j0 = 3 by omega) with rfl | rfl | rfl | rfl <;> rfl
theorem g_A_13 (C : zCx p s m args c cc nL R_A dC dI k) (h : zH dC dI k q X M A H0 H locs) (hdg : decode cc pc = .ok (.getfield 13, 3)) (kk : W p l e R s m args below meth c H locs cells slots Q (F0 m (pc + 3) ls (.ref (q 2) :: rest))) : W p l e R s m args below meth c H locs cells slots Q (F0 m pc ls (.ref (q 1) :: rest)) :=
  z_get C h 1 rfl rfl 0 (by decide) u_A fl_A_13 rfl hdg kk
theorem g_A_16 (C : zCx p s m args c cc nL R_A dC dI k) (h : zH dC dI k q X M A H0 H locs) (hdg : decode cc pc = .ok (.getfield 16, 3)) (kk : W p l e R s m args below meth c H locs cells slots Q (F0 m (pc + 3) ls (.ref (q 10) :: rest))) : W p l e R s m args below meth c H locs cells slots Q (F0 m pc ls (.ref (q 1) :: rest)) :=
  z_get C h 1 rfl rfl 1 (by decide) u_A fl_A_16 rfl hdg kk
theorem g_S_97 (C : zCx p s m args c cc nL R_S dC dI k) (h : zH dC dI k q X M A H0 H locs) (hdg : decode cc pc = .ok (.getfield 97, 3)) (kk : W p l e R s m args below meth c H locs cells slots Q (F0 m (pc + 3) ls (.ref (q 10) :: rest))) : W p l e R s m args below meth c H locs cells slots Q (F0 m pc ls (.ref (q 1) :: rest)) :=
  z_getN C h 1 rfl rfl 1 (by decide) u_A fn_S_97 rfl hdg kk
theorem g_A_19 (C : zCx p s m args c cc nL R_A dC dI k) (h : zH dC dI k q X M A H0 H locs) (hdg : decode cc pc = .ok (.getfield 19, 3)) (kk : W p l e R s m args below meth c H locs cells slots Q (F0 m (pc + 3) ls (.int (X 2 0 0) :: rest))) : W p l e R s m args below meth c H locs cells slots Q (F0 m pc ls (.ref (q 1) :: rest)) :=
  z_get C h 1 rfl rfl 2 (by decide) u_A fl_A_19 rfl hdg kk
theorem p_A_19 (C : zCx p s m args c cc nL R_A dC dI k) (h : zH dC dI k q X M A H0 H locs) {v : Int32} (hdg : decode cc pc = .ok (.putfield 19, 3)) (kk : ∀ (H1 : Heap) (locs1 : List Loc), zH dC dI k q (u3 X 2 0 0 v) M A H0 H1 locs1 → W p l e R s m args below meth c H1 locs1 cells slots Q (F0 m (pc + 3) ls rest)) : W p l e R s m args below meth c H locs cells slots Q (F0 m pc ls (.int v :: .ref (q 1) :: rest)) :=
  z_put C h 1 rfl rfl 2 (by decide) u_A t_A to_A n_A fl_A_19 rfl (ty := .int) (by decide +kernel) rfl rfl (Nat.le_of_ble_eq_true rfl) rfl hdg kk
theorem g_S_57 (C : zCx p s m args c cc nL R_S dC dI k) (h : zH dC dI k q X M A H0 H locs) (hdg : decode cc pc = .ok (.getfield 57, 3)) (kk : W p l e R s m args below meth c H locs cells slots Q (F0 m (pc + 3) ls (.int (X 2 0 0) :: rest))) : W p l e R s m args below meth c H locs cells slots Q (F0 m pc ls (.ref (q 1) :: rest)) :=
  z_getN C h 1 rfl rfl 2 (by decide) u_A fn_S_57 rfl hdg kk
theorem g_H_24 (C : zCx p s m args c cc nL R_H dC dI k) (h : zH dC dI k q X M A H0 H locs) (hdg : decode cc pc = .ok (.getfield 24, 3)) (kk : W p l e R s m args below meth c H locs cells slots Q (F0 m (pc + 3) ls (.ref (q 1) :: rest))) : W p l e R s m args below meth c H locs cells slots Q (F0 m pc ls (.ref (q 32) :: rest)) :=
  z_get C h 32 rfl rfl 0 (by decide) u_H fl_H_24 rfl hdg kk
theorem g_H_9 (C : zCx p s m args c cc nL R_H dC dI k) (h : zH dC dI k q X M A H0 H locs) (hdg : decode cc pc = .ok (.getfield 9, 3)) (kk : W p l e R s m args below meth c H locs cells slots Q (F0 m (pc + 3) ls (.ref (q 33) :: rest))) : W p l e R s m args below meth c H locs cells slots Q (F0 m pc ls (.ref (q 32) :: rest)) :=
  z_get C h 32 rfl rfl 1 (by decide) u_H fl_H_9 rfl hdg kk
theorem g_S_81 (C : zCx p s m args c cc nL R_S dC dI k) (h : zH dC dI k q X M A H0 H locs) (hdg : decode cc pc = .ok (.getfield 81, 3)) (kk : W p l e R s m args below meth c H locs cells slots Q (F0 m (pc + 3) ls (.ref (q 33) :: rest))) : W p l e R s m args below meth c H locs cells slots Q (F0 m pc ls (.ref (q 32) :: rest)) :=
  z_getN C h 32 rfl rfl 1 (by decide) u_H fn_S_81 rfl hdg kk
theorem g_H_15 (C : zCx p s m args c cc nL R_H dC dI k) (h : zH dC dI k q X M A H0 H locs) (hdg : decode cc pc = .ok (.getfield 15, 3)) (kk : W p l e R s m args below meth c H locs cells slots Q (F0 m (pc + 3) ls (.ref (q 34) :: rest))) : W p l e R s m args below meth c H locs cells slots Q (F0 m pc ls (.ref (q 32) :: rest)) :=
  z_get C h 32 rfl rfl 2 (by decide) u_H fl_H_15 rfl hdg kk
theorem g_H_18 (C : zCx p s m args c cc nL R_H dC dI k) (h : zH dC dI k q X M A H0 H locs) (hdg : decode cc pc = .ok (.getfield 18, 3)) (kk : W p l e R s m args below meth c H locs cells slots Q (F0 m (pc + 3) ls (.ref (q 35) :: rest))) : W p l e R s m args below meth c H locs cells slots Q (F0 m pc ls (.ref (q 32) :: rest)) :=
  z_get C h 32 rfl rfl 3 (by decide) u_H fl_H_18 rfl hdg kk
theorem g_H_21 (C : zCx p s m args c cc nL R_H dC dI k) (h : zH dC dI k q X M A H0 H locs) (hdg : decode cc pc = .ok (.getfield 21, 3)) (kk : W p l e R s m args below meth c H locs cells slots Q (F0 m (pc + 3) ls (.ref (q 36) :: rest))) : W p l e R s m args below meth c H locs cells slots Q (F0 m pc ls (.ref (q 32) :: rest)) :=
  z_get C h 32 rfl rfl 4 (by decide) u_H fl_H_21 rfl hdg kk
theorem g_C_38 (C : zCx p s m args c cc nL R_C dC dI k) (h : zH dC dI k q X M A H0 H locs) {j0 : Nat} (hj : j0 < 4) (hdg : decode cc pc = .ok (.getfield 38, 3)) (kk : W p l e R s m args below meth c H locs cells slots Q (F0 m (pc + 3) ls (.int (nI j0) :: rest))) : W p l e R s m args below meth c H locs cells slots Q (F0 m pc ls (.ref (q (16 + 4 * j0)) :: rest)) :=
  z_get C h (16 + 4 * j0) (zW_core hj) rfl 0 (by decide) u_C fl_C_38 rfl hdg kk
theorem g_C_41 (C : zCx p s m args c cc nL R_C dC dI k) (h : zH dC dI k q X M A H0 H locs) {j0 : Nat} (hj : j0 < 4) (hdg : decode cc pc = .ok (.getfield 41, 3)) (kk : W p l e R s m args below meth c H locs cells slots Q (F0 m (pc + 3) ls (.ref (q 1) :: rest))) : W p l e R s m args below meth c H locs cells slots Q (F0 m pc ls (.ref (q (16 + 4 * j0)) :: rest)) :=
  z_get C h (16 + 4 * j0) (zW_core hj) rfl 1 (by decide) u_C fl_C_41 rfl hdg kk
theorem g_C_9 (C : zCx p s m args c cc nL R_C dC dI k) (h : zH dC dI k q X M A H0 H locs) {j0 : Nat} (hj : j0 < 4) (hdg : decode cc pc = .ok (.getfield 9, 3)) (kk : W p l e R s m args below meth c H locs cells slots Q (F0 m (pc + 3) ls (.ref (q (17 + 4 * j0)) :: rest))) : W p l e R s m args below meth c H locs cells slots Q (F0 m pc ls (.ref (q (16 + 4 * j0)) :: rest)) :=
  z_get C h (16 + 4 * j0) (zW_core hj) rfl 2 (by decide) u_C fl_C_9 rfl hdg kk
theorem g_S_65 (C : zCx p s m args c cc nL R_S dC dI k) (h : zH dC dI k q X M A H0 H locs) {j0 : Nat} (hj : j0 < 4) (hdg : decode cc pc = .ok (.getfield 65, 3)) (kk : W p l e R s m args below meth c H locs cells slots Q (F0 m (pc + 3) ls (.ref (q (17 + 4 * j0)) :: rest))) : W p l e R s m args below meth c H locs cells slots Q (F0 m pc ls (.ref (q (16 + 4 * j0)) :: rest)) :=
  z_getN C h (16 + 4 * j0) (zW_core hj) rfl 2 (by decide) u_C fn_S_65 rfl hdg kk
theorem g_C_15 (C : zCx p s m args c cc nL R_C dC dI k) (h : zH dC dI k q X M A H0 H locs) {j0 : Nat} (hj : j0 < 4) (hdg : decode cc pc = .ok (.getfield 15, 3)) (kk : W p l e R s m args below meth c H locs cells slots Q (F0 m (pc + 3) ls (.ref (q (18 + 4 * j0)) :: rest))) : W p l e R s m args below meth c H locs cells slots Q (F0 m pc ls (.ref (q (16 + 4 * j0)) :: rest)) :=
  z_get C h (16 + 4 * j0) (zW_core hj) rfl 3 (by decide) u_C fl_C_15 rfl hdg kk
theorem g_C_18 (C : zCx p s m args c cc nL R_C dC dI k) (h : zH dC dI k q X M A H0 H locs) {j0 : Nat} (hj : j0 < 4) (hdg : decode cc pc = .ok (.getfield 18, 3)) (kk : W p l e R s m args below meth c H locs cells slots Q (F0 m (pc + 3) ls (.ref (q (19 + 4 * j0)) :: rest))) : W p l e R s m args below meth c H locs cells slots Q (F0 m pc ls (.ref (q (16 + 4 * j0)) :: rest)) :=
  z_get C h (16 + 4 * j0) (zW_core hj) rfl 4 (by decide) u_C fl_C_18 rfl hdg kk
theorem g_C_21 (C : zCx p s m args c cc nL R_C dC dI k) (h : zH dC dI k q X M A H0 H locs) {j0 : Nat} (hj : j0 < 4) (hdg : decode cc pc = .ok (.getfield 21, 3)) (kk : W p l e R s m args below meth c H locs cells slots Q (F0 m (pc + 3) ls (.int (X 6 j0 0) :: rest))) : W p l e R s m args below meth c H locs cells slots Q (F0 m pc ls (.ref (q (16 + 4 * j0)) :: rest)) :=
  z_get C h (16 + 4 * j0) (zW_core hj) rfl 5 (by decide) u_C fl_C_21 rfl hdg kk
theorem p_C_21 (C : zCx p s m args c cc nL R_C dC dI k) (h : zH dC dI k q X M A H0 H locs) {j0 : Nat} (hj : j0 < 4) {v : Int32} (hv : v = 0 ∨ v = 1) (hdg : decode cc pc = .ok (.putfield 21, 3)) (kk : ∀ (H1 : Heap) (locs1 : List Loc), zH dC dI k q (u3 X 6 j0 0 v) M A H0 H1 locs1 → W p l e R s m args below meth c H1 locs1 cells slots Q (F0 m (pc + 3) ls rest)) : W p l e R s m args below meth c H locs cells slots Q (F0 m pc ls (.int v :: .ref (q (16 + 4 * j0)) :: rest)) :=
  z_put C h (16 + 4 * j0) (zW_core hj) rfl 5 (by decide) u_C t_C to_C n_C fl_C_21 rfl (ty := .boolean) (by decide +kernel) (by rcases hv with rfl | rfl <;> decide +kernel) (by rcases hv with rfl | rfl <;> decide +kernel) (Nat.le_of_ble_eq_true rfl) (by rcases (show j0 = 0 ∨ j0 = 1 ∨ j0 = 2 ∨ j0 = 3 by omega) with rfl | rfl | rfl | rfl <;> rfl) hdg kk
theorem g_S_87 (C : zCx p s m args c cc nL R_S dC dI k) (h : zH dC dI k q X M A H0 H locs) {j0 : Nat} (hj : j0 < 4) (hdg : decode cc pc = .ok (.getfield 87, 3)) (kk : W p l e R s m args below meth c H locs cells slots Q (F0 m (pc + 3) ls (.int (X 6 j0 0) :: rest))) : W p l e R s m args below meth c H locs cells slots Q (F0 m pc ls (.ref (q (16 + 4 * j0)) :: rest)) :=
  z_getN C h (16 + 4 * j0) (zW_core hj) rfl 5 (by decide) u_C fn_S_87 rfl hdg kk
theorem g_C_25 (C : zCx p s m args c cc nL R_C dC dI k) (h : zH dC dI k q X M A H0 H locs) {j0 : Nat} (hj : j0 < 4) (hdg : decode cc pc = .ok (.getfield 25, 3)) (kk : W p l e R s m args below meth c H locs cells slots Q (F0 m (pc + 3) ls (.int (X 7 j0 0) :: rest))) : W p l e R s m args below meth c H locs cells slots Q (F0 m pc ls (.ref (q (16 + 4 * j0)) :: rest)) :=
  z_get C h (16 + 4 * j0) (zW_core hj) rfl 6 (by decide) u_C fl_C_25 rfl hdg kk
theorem p_C_25 (C : zCx p s m args c cc nL R_C dC dI k) (h : zH dC dI k q X M A H0 H locs) {j0 : Nat} (hj : j0 < 4) {v : Int32} (hdg : decode cc pc = .ok (.putfield 25, 3)) (kk : ∀ (H1 : Heap) (locs1 : List Loc), zH dC dI k q (u3 X 7 j0 0 v) M A H0 H1 locs1 → W p l e R s m args below meth c H1 locs1 cells slots Q (F0 m (pc + 3) ls rest)) : W p l e R s m args below meth c H locs cells slots Q (F0 m pc ls (.int v :: .ref (q (16 + 4 * j0)) :: rest)) :=
  z_put C h (16 + 4 * j0) (zW_core hj) rfl 6 (by decide) u_C t_C to_C n_C fl_C_25 rfl (ty := .int) (by decide +kernel) rfl rfl (Nat.le_of_ble_eq_true rfl) (by rcases (show j0 = 0 ∨ j0 = 1 ∨ j0 = 2 ∨ j0 = 3 by omega) with rfl | rfl | rfl | rfl <;> rfl) hdg kk
theorem g_C_29 (C : zCx p s m args c cc nL R_C dC dI k) (h : zH dC dI k q X M A H0 H locs) {j0 : Nat} (hj : j0 < 4) (hdg : decode cc pc = .ok (.getfield 29, 3)) (kk : W p l e R s m args below meth c H locs cells slots Q (F0 m (pc + 3) ls (.int (X 8 j0 0) :: rest))) : W p l e R s m args below meth c H locs cells slots Q (F0 m pc ls (.ref (q (16 + 4 * j0)) :: rest)) :=
  z_get C h (16 + 4 * j0) (zW_core hj) rfl 7 (by decide) u_C fl_C_29 rfl hdg kk
theorem p_C_29 (C : zCx p s m args c cc nL R_C dC dI k) (h : zH dC dI k q X M A H0 H locs) {j0 : Nat} (hj : j0 < 4) {v : Int32} (hdg : decode cc pc = .ok (.putfield 29, 3)) (kk : ∀ (H1 : Heap) (locs1 : List Loc), zH dC dI k q (u3 X 8 j0 0 v) M A H0 H1 locs1 → W p l e R s m args below meth c H1 locs1 cells slots Q (F0 m (pc + 3) ls rest)) : W p l e R s m args below meth c H locs cells slots Q (F0 m pc ls (.int v :: .ref (q (16 + 4 * j0)) :: rest)) :=
  z_put C h (16 + 4 * j0) (zW_core hj) rfl 7 (by decide) u_C t_C to_C n_C fl_C_29 rfl (ty := .int) (by decide +kernel) rfl rfl (Nat.le_of_ble_eq_true rfl) (by rcases (show j0 = 0 ∨ j0 = 1 ∨ j0 = 2 ∨ j0 = 3 by omega) with rfl | rfl | rfl | rfl <;> rfl) hdg kk
theorem g_C_32 (C : zCx p s m args c cc nL R_C dC dI k) (h : zH dC dI k q X M A H0 H locs) {j0 : Nat} (hj : j0 < 4) (hdg : decode cc pc = .ok (.getfield 32, 3)) (kk : W p l e R s m args below meth c H locs cells slots Q (F0 m (pc + 3) ls (.int (X 9 j0 0) :: rest))) : W p l e R s m args below meth c H locs cells slots Q (F0 m pc ls (.ref (q (16 + 4 * j0)) :: rest)) :=
  z_get C h (16 + 4 * j0) (zW_core hj) rfl 8 (by decide) u_C fl_C_32 rfl hdg kk
theorem p_C_32 (C : zCx p s m args c cc nL R_C dC dI k) (h : zH dC dI k q X M A H0 H locs) {j0 : Nat} (hj : j0 < 4) {v : Int32} (hdg : decode cc pc = .ok (.putfield 32, 3)) (kk : ∀ (H1 : Heap) (locs1 : List Loc), zH dC dI k q (u3 X 9 j0 0 v) M A H0 H1 locs1 → W p l e R s m args below meth c H1 locs1 cells slots Q (F0 m (pc + 3) ls rest)) : W p l e R s m args below meth c H locs cells slots Q (F0 m pc ls (.int v :: .ref (q (16 + 4 * j0)) :: rest)) :=
  z_put C h (16 + 4 * j0) (zW_core hj) rfl 8 (by decide) u_C t_C to_C n_C fl_C_32 rfl (ty := .int) (by decide +kernel) rfl rfl (Nat.le_of_ble_eq_true rfl) (by rcases (show j0 = 0 ∨ j0 = 1 ∨ j0 = 2 ∨ j0 = 3 by omega) with rfl | rfl | rfl | rfl <;> rfl) hdg kk
theorem g_S_91 (C : zCx p s m args c cc nL R_S dC dI k) (h : zH dC dI k q X M A H0 H locs) {j0 : Nat} (hj : j0 < 4) (hdg : decode cc pc = .ok (.getfield 91, 3)) (kk : W p l e R s m args below meth c H locs cells slots Q (F0 m (pc + 3) ls (.int (X 9 j0 0) :: rest))) : W p l e R s m args below meth c H locs cells slots Q (F0 m pc ls (.ref (q (16 + 4 * j0)) :: rest)) :=
  z_getN C h (16 + 4 * j0) (zW_core hj) rfl 8 (by decide) u_C fn_S_91 rfl hdg kk
theorem g_C_35 (C : zCx p s m args c cc nL R_C dC dI k) (h : zH dC dI k q X M A H0 H locs) {j0 : Nat} (hj : j0 < 4) (hdg : decode cc pc = .ok (.getfield 35, 3)) (kk : W p l e R s m args below meth c H locs cells slots Q (F0 m (pc + 3) ls (.int (X 10 j0 0) :: rest))) : W p l e R s m args below meth c H locs cells slots Q (F0 m pc ls (.ref (q (16 + 4 * j0)) :: rest)) :=
  z_get C h (16 + 4 * j0) (zW_core hj) rfl 9 (by decide) u_C fl_C_35 rfl hdg kk
theorem p_C_35 (C : zCx p s m args c cc nL R_C dC dI k) (h : zH dC dI k q X M A H0 H locs) {j0 : Nat} (hj : j0 < 4) {v : Int32} (hdg : decode cc pc = .ok (.putfield 35, 3)) (kk : ∀ (H1 : Heap) (locs1 : List Loc), zH dC dI k q (u3 X 10 j0 0 v) M A H0 H1 locs1 → W p l e R s m args below meth c H1 locs1 cells slots Q (F0 m (pc + 3) ls rest)) : W p l e R s m args below meth c H locs cells slots Q (F0 m pc ls (.int v :: .ref (q (16 + 4 * j0)) :: rest)) :=
  z_put C h (16 + 4 * j0) (zW_core hj) rfl 9 (by decide) u_C t_C to_C n_C fl_C_35 rfl (ty := .int) (by decide +kernel) rfl rfl (Nat.le_of_ble_eq_true rfl) (by rcases (show j0 = 0 ∨ j0 = 1 ∨ j0 = 2 ∨ j0 = 3 by omega) with rfl | rfl | rfl | rfl <;> rfl) hdg kk
theorem g_S_94 (C : zCx p s m args c cc nL R_S dC dI k) (h : zH dC dI k q X M A H0 H locs) {j0 : Nat} (hj : j0 < 4) (hdg : decode cc pc = .ok (.getfield 94, 3)) (kk : W p l e R s m args below meth c H locs cells slots Q (F0 m (pc + 3) ls (.int (X 10 j0 0) :: rest))) : W p l e R s m args below meth c H locs cells slots Q (F0 m pc ls (.ref (q (16 + 4 * j0)) :: rest)) :=
  z_getN C h (16 + 4 * j0) (zW_core hj) rfl 9 (by decide) u_C fn_S_94 rfl hdg kk
theorem g_S_10 (C : zCx p s m args c cc nL R_S dC dI k) (h : zH dC dI k q X M A H0 H locs) (hdg : decode cc pc = .ok (.getfield 10, 3)) (kk : W p l e R s m args below meth c H locs cells slots Q (F0 m (pc + 3) ls (.ref (q 1) :: rest))) : W p l e R s m args below meth c H locs cells slots Q (F0 m pc ls (.ref (q 0) :: rest)) :=
  z_get C h 0 rfl rfl 0 (by decide) u_S fl_S_10 rfl hdg kk
theorem g_S_27 (C : zCx p s m args c cc nL R_S dC dI k) (h : zH dC dI k q X M A H0 H locs) (hdg : decode cc pc = .ok (.getfield 27, 3)) (kk : W p l e R s m args below meth c H locs cells slots Q (F0 m (pc + 3) ls (.ref (q 15) :: rest))) : W p l e R s m args below meth c H locs cells slots Q (F0 m pc ls (.ref (q 0) :: rest)) :=
  z_get C h 0 rfl rfl 1 (by decide) u_S fl_S_27 rfl hdg kk
theorem g_S_21 (C : zCx p s m args c cc nL R_S dC dI k) (h : zH dC dI k q X M A H0 H locs) (hdg : decode cc pc = .ok (.getfield 21, 3)) (kk : W p l e R s m args below meth c H locs cells slots Q (F0 m (pc + 3) ls (.ref (q 32) :: rest))) : W p l e R s m args below meth c H locs cells slots Q (F0 m pc ls (.ref (q 0) :: rest)) :=
  z_get C h 0 rfl rfl 2 (by decide) u_S fl_S_21 rfl hdg kk
theorem g_M_7 (C : zCx p s m args c cc nL R_M dC dI k) (h : zH dC dI k q X M A H0 H locs) (hdg : decode cc pc = .ok (.getfield 7, 3)) (kk : W p l e R s m args below meth c H locs cells slots Q (F0 m (pc + 3) ls (.ref (q 38) :: rest))) : W p l e R s m args below meth c H locs cells slots Q (F0 m pc ls (.ref (q 37) :: rest)) :=
  z_get C h 37 rfl rfl 0 (by decide) u_M fl_M_7 rfl hdg kk
theorem g_M_13 (C : zCx p s m args c cc nL R_M dC dI k) (h : zH dC dI k q X M A H0 H locs) (hdg : decode cc pc = .ok (.getfield 13, 3)) (kk : W p l e R s m args below meth c H locs cells slots Q (F0 m (pc + 3) ls (.ref (q 39) :: rest))) : W p l e R s m args below meth c H locs cells slots Q (F0 m pc ls (.ref (q 37) :: rest)) :=
  z_get C h 37 rfl rfl 1 (by decide) u_M fl_M_13 rfl hdg kk
theorem g_M_16 (C : zCx p s m args c cc nL R_M dC dI k) (h : zH dC dI k q X M A H0 H locs) (hdg : decode cc pc = .ok (.getfield 16, 3)) (kk : W p l e R s m args below meth c H locs cells slots Q (F0 m (pc + 3) ls (.ref (q 40) :: rest))) : W p l e R s m args below meth c H locs cells slots Q (F0 m pc ls (.ref (q 37) :: rest)) :=
  z_get C h 37 rfl rfl 2 (by decide) u_M fl_M_16 rfl hdg kk
theorem g_M_19 (C : zCx p s m args c cc nL R_M dC dI k) (h : zH dC dI k q X M A H0 H locs) (hdg : decode cc pc = .ok (.getfield 19, 3)) (kk : W p l e R s m args below meth c H locs cells slots Q (F0 m (pc + 3) ls (.ref (q 41) :: rest))) : W p l e R s m args below meth c H locs cells slots Q (F0 m pc ls (.ref (q 37) :: rest)) :=
  z_get C h 37 rfl rfl 3 (by decide) u_M fl_M_19 rfl hdg kk
theorem g_M_22 (C : zCx p s m args c cc nL R_M dC dI k) (h : zH dC dI k q X M A H0 H locs) (hdg : decode cc pc = .ok (.getfield 22, 3)) (kk : W p l e R s m args below meth c H locs cells slots Q (F0 m (pc + 3) ls (.ref (q 42) :: rest))) : W p l e R s m args below meth c H locs cells slots Q (F0 m pc ls (.ref (q 37) :: rest)) :=
  z_get C h 37 rfl rfl 4 (by decide) u_M fl_M_22 rfl hdg kk
theorem g_M_25 (C : zCx p s m args c cc nL R_M dC dI k) (h : zH dC dI k q X M A H0 H locs) (hdg : decode cc pc = .ok (.getfield 25, 3)) (kk : W p l e R s m args below meth c H locs cells slots Q (F0 m (pc + 3) ls (.ref (q 43) :: rest))) : W p l e R s m args below meth c H locs cells slots Q (F0 m pc ls (.ref (q 37) :: rest)) :=
  z_get C h 37 rfl rfl 5 (by decide) u_M fl_M_25 rfl hdg kk
theorem g_M_29 (C : zCx p s m args c cc nL R_M dC dI k) (h : zH dC dI k q X M A H0 H locs) (hdg : decode cc pc = .ok (.getfield 29, 3)) (kk : W p l e R s m args below meth c H locs cells slots Q (F0 m (pc + 3) ls (.ref (q 44) :: rest))) : W p l e R s m args below meth c H locs cells slots Q (F0 m pc ls (.ref (q 37) :: rest)) :=
  z_get C h 37 rfl rfl 6 (by decide) u_M fl_M_29 rfl hdg kk
theorem g_M_32 (C : zCx p s m args c cc nL R_M dC dI k) (h : zH dC dI k q X M A H0 H locs) (hdg : decode cc pc = .ok (.getfield 32, 3)) (kk : W p l e R s m args below meth c H locs cells slots Q (F0 m (pc + 3) ls (.ref (q 45) :: rest))) : W p l e R s m args below meth c H locs cells slots Q (F0 m pc ls (.ref (q 37) :: rest)) :=
  z_get C h 37 rfl rfl 7 (by decide) u_M fl_M_32 rfl hdg kk
theorem g_M_35 (C : zCx p s m args c cc nL R_M dC dI k) (h : zH dC dI k q X M A H0 H locs) (hdg : decode cc pc = .ok (.getfield 35, 3)) (kk : W p l e R s m args below meth c H locs cells slots Q (F0 m (pc + 3) ls (.ref (q 46) :: rest))) : W p l e R s m args below meth c H locs cells slots Q (F0 m pc ls (.ref (q 37) :: rest)) :=
  z_get C h 37 rfl rfl 8 (by decide) u_M fl_M_35 rfl hdg kk
theorem g_M_38 (C : zCx p s m args c cc nL R_M dC dI k) (h : zH dC dI k q X M A H0 H locs) (hdg : decode cc pc = .ok (.getfield 38, 3)) (kk : W p l e R s m args below meth c H locs cells slots Q (F0 m (pc + 3) ls (.ref (q 47) :: rest))) : W p l e R s m args below meth c H locs cells slots Q (F0 m pc ls (.ref (q 37) :: rest)) :=
  z_get C h 37 rfl rfl 9 (by decide) u_M fl_M_38 rfl hdg kk
theorem g_M_41 (C : zCx p s m args c cc nL R_M dC dI k) (h : zH dC dI k q X M A H0 H locs) (hdg : decode cc pc = .ok (.getfield 41, 3)) (kk : W p l e R s m args below meth c H locs cells slots Q (F0 m (pc + 3) ls (.ref (q 48) :: rest))) : W p l e R s m args below meth c H locs cells slots Q (F0 m pc ls (.ref (q 37) :: rest)) :=
  z_get C h 37 rfl rfl 10 (by decide) u_M fl_M_41 rfl hdg kk
theorem g_M_44 (C : zCx p s m args c cc nL R_M dC dI k) (h : zH dC dI k q X M A H0 H locs) (hdg : decode cc pc = .ok (.getfield 44, 3)) (kk : W p l e R s m args below meth c H locs cells slots Q (F0 m (pc + 3) ls (.ref (q 49) :: rest))) : W p l e R s m args below meth c H locs cells slots Q (F0 m pc ls (.ref (q 37) :: rest)) :=
  z_get C h 37 rfl rfl 11 (by decide) u_M fl_M_44 rfl hdg kk
theorem g_M_47 (C : zCx p s m args c cc nL R_M dC dI k) (h : zH dC dI k q X M A H0 H locs) (hdg : decode cc pc = .ok (.getfield 47, 3)) (kk : W p l e R s m args below meth c H locs cells slots Q (F0 m (pc + 3) ls (.ref (q 50) :: rest))) : W p l e R s m args below meth c H locs cells slots Q (F0 m pc ls (.ref (q 37) :: rest)) :=
  z_get C h 37 rfl rfl 12 (by decide) u_M fl_M_47 rfl hdg kk
theorem g_M_50 (C : zCx p s m args c cc nL R_M dC dI k) (h : zH dC dI k q X M A H0 H locs) (hdg : decode cc pc = .ok (.getfield 50, 3)) (kk : W p l e R s m args below meth c H locs cells slots Q (F0 m (pc + 3) ls (.ref (q 51) :: rest))) : W p l e R s m args below meth c H locs cells slots Q (F0 m pc ls (.ref (q 37) :: rest)) :=
  z_get C h 37 rfl rfl 13 (by decide) u_M fl_M_50 rfl hdg kk
theorem g_M_53 (C : zCx p s m args c cc nL R_M dC dI k) (h : zH dC dI k q X M A H0 H locs) (hdg : decode cc pc = .ok (.getfield 53, 3)) (kk : W p l e R s m args below meth c H locs cells slots Q (F0 m (pc + 3) ls (.ref (q 52) :: rest))) : W p l e R s m args below meth c H locs cells slots Q (F0 m pc ls (.ref (q 37) :: rest)) :=
  z_get C h 37 rfl rfl 14 (by decide) u_M fl_M_53 rfl hdg kk
theorem g_M_81 (C : zCx p s m args c cc nL R_M dC dI k) (h : zH dC dI k q X M A H0 H locs) (hdg : decode cc pc = .ok (.getfield 81, 3)) (kk : W p l e R s m args below meth c H locs cells slots Q (F0 m (pc + 3) ls (.int (M 15 0) :: rest))) : W p l e R s m args below meth c H locs cells slots Q (F0 m pc ls (.ref (q 37) :: rest)) :=
  z_get C h 37 rfl rfl 15 (by decide) u_M fl_M_81 rfl hdg kk
theorem p_M_81 (C : zCx p s m args c cc nL R_M dC dI k) (h : zH dC dI k q X M A H0 H locs) {v : Int32} (hdg : decode cc pc = .ok (.putfield 81, 3)) (kk : ∀ (H1 : Heap) (locs1 : List Loc), zH dC dI k q X (u2 M 15 0 v) A H0 H1 locs1 → W p l e R s m args below meth c H1 locs1 cells slots Q (F0 m (pc + 3) ls rest)) : W p l e R s m args below meth c H locs cells slots Q (F0 m pc ls (.int v :: .ref (q 37) :: rest)) :=
  z_put C h 37 rfl rfl 15 (by decide) u_M t_M to_M n_M fl_M_81 rfl (ty := .int) (by decide +kernel) rfl rfl (Nat.le_of_ble_eq_true rfl) rfl hdg kk
theorem g_M_56 (C : zCx p s m args c cc nL R_M dC dI k) (h : zH dC dI k q X M A H0 H locs) (hdg : decode cc pc = .ok (.getfield 56, 3)) (kk : W p l e R s m args below meth c H locs cells slots Q (F0 m (pc + 3) ls (.ref (q 53) :: rest))) : W p l e R s m args below meth c H locs cells slots Q (F0 m pc ls (.ref (q 37) :: rest)) :=
  z_get C h 37 rfl rfl 16 (by decide) u_M fl_M_56 rfl hdg kk
theorem g_M_59 (C : zCx p s m args c cc nL R_M dC dI k) (h : zH dC dI k q X M A H0 H locs) (hdg : decode cc pc = .ok (.getfield 59, 3)) (kk : W p l e R s m args below meth c H locs cells slots Q (F0 m (pc + 3) ls (.ref (q 54) :: rest))) : W p l e R s m args below meth c H locs cells slots Q (F0 m pc ls (.ref (q 37) :: rest)) :=
  z_get C h 37 rfl rfl 17 (by decide) u_M fl_M_59 rfl hdg kk
theorem g_M_62 (C : zCx p s m args c cc nL R_M dC dI k) (h : zH dC dI k q X M A H0 H locs) (hdg : decode cc pc = .ok (.getfield 62, 3)) (kk : W p l e R s m args below meth c H locs cells slots Q (F0 m (pc + 3) ls (.ref (q 55) :: rest))) : W p l e R s m args below meth c H locs cells slots Q (F0 m pc ls (.ref (q 37) :: rest)) :=
  z_get C h 37 rfl rfl 18 (by decide) u_M fl_M_62 rfl hdg kk
theorem g_M_65 (C : zCx p s m args c cc nL R_M dC dI k) (h : zH dC dI k q X M A H0 H locs) (hdg : decode cc pc = .ok (.getfield 65, 3)) (kk : W p l e R s m args below meth c H locs cells slots Q (F0 m (pc + 3) ls (.ref (q 56) :: rest))) : W p l e R s m args below meth c H locs cells slots Q (F0 m pc ls (.ref (q 37) :: rest)) :=
  z_get C h 37 rfl rfl 19 (by decide) u_M fl_M_65 rfl hdg kk
theorem g_M_68 (C : zCx p s m args c cc nL R_M dC dI k) (h : zH dC dI k q X M A H0 H locs) (hdg : decode cc pc = .ok (.getfield 68, 3)) (kk : W p l e R s m args below meth c H locs cells slots Q (F0 m (pc + 3) ls (.ref (q 57) :: rest))) : W p l e R s m args below meth c H locs cells slots Q (F0 m pc ls (.ref (q 37) :: rest)) :=
  z_get C h 37 rfl rfl 20 (by decide) u_M fl_M_68 rfl hdg kk
theorem g_M_71 (C : zCx p s m args c cc nL R_M dC dI k) (h : zH dC dI k q X M A H0 H locs) (hdg : decode cc pc = .ok (.getfield 71, 3)) (kk : W p l e R s m args below meth c H locs cells slots Q (F0 m (pc + 3) ls (.ref (q 58) :: rest))) : W p l e R s m args below meth c H locs cells slots Q (F0 m pc ls (.ref (q 37) :: rest)) :=
  z_get C h 37 rfl rfl 21 (by decide) u_M fl_M_71 rfl hdg kk
theorem g_M_74 (C : zCx p s m args c cc nL R_M dC dI k) (h : zH dC dI k q X M A H0 H locs) (hdg : decode cc pc = .ok (.getfield 74, 3)) (kk : W p l e R s m args below meth c H locs cells slots Q (F0 m (pc + 3) ls (.ref (q 59) :: rest))) : W p l e R s m args below meth c H locs cells slots Q (F0 m pc ls (.ref (q 37) :: rest)) :=
  z_get C h 37 rfl rfl 22 (by decide) u_M fl_M_74 rfl hdg kk
theorem l_parts (C : zCx p s m args c cc nL own dC dI k) (h : zH dC dI k q X M A H0 H locs) {w : Nat} (hw : w < 7) {j : Int32} (hin : vp_in j 64) (hdg : decode cc pc = .ok (.iaload, 1)) (kk : W p l e R s m args below meth c H locs cells slots Q (F0 m (pc + 1) ls (.int ((X 0 w) j.toNatClampNeg) :: rest))) : W p l e R s m args below meth c H locs cells slots Q (F0 m pc ls (.int j :: .ref (q (3 + w)) :: rest)) :=
  z_ld C h (3 + w) (by rcases (show w = 0 ∨ w = 1 ∨ w = 2 ∨ w = 3 ∨ w = 4 ∨ w = 5 ∨ w = 6 by omega) with rfl | rfl | rfl | rfl | rfl | rfl | rfl <;> rfl) hin hdg kk
theorem s_parts (C : zCx p s m args c cc nL own dC dI k) (h : zH dC dI k q X M A H0 H locs) {w : Nat} (hw : w < 7) {j x : Int32} (hin : vp_in j 64) (hdg : decode cc pc = .ok (.iastore, 1)) (kk : ∀ (H1 : Heap) (locs1 : List Loc), zH dC dI k q (u3 X 0 w j.toNatClampNeg x) M A H0 H1 locs1 → W p l e R s m args below meth c H1 locs1 cells slots Q (F0 m (pc + 1) ls rest)) : W p l e R s m args below meth c H locs cells slots Q (F0 m pc ls (.int x :: .int j :: .ref (q (3 + w)) :: rest)) :=
  z_st (f := (X 0 w)) C h (3 + w) (by rcases (show w = 0 ∨ w = 1 ∨ w = 2 ∨ w = 3 ∨ w = 4 ∨ w = 5 ∨ w = 6 by omega) with rfl | rfl | rfl | rfl | rfl | rfl | rfl <;> rfl) hin (by rcases (show w = 0 ∨ w = 1 ∨ w = 2 ∨ w = 3 ∨ w = 4 ∨ w = 5 ∨ w = 6 by omega) with rfl | rfl | rfl | rfl | rfl | rfl | rfl <;> rfl) hdg kk
theorem l_tal (C : zCx p s m args c cc nL own dC dI k) (h : zH dC dI k q X M A H0 H locs) {w : Nat} (hw : w < 4) {j : Int32} (hin : vp_in j 4) (hdg : decode cc pc = .ok (.iaload, 1)) (kk : W p l e R s m args below meth c H locs cells slots Q (F0 m (pc + 1) ls (.int ((X 1 w) j.toNatClampNeg) :: rest))) : W p l e R s m args below meth c H locs cells slots Q (F0 m pc ls (.int j :: .ref (q (11 + w)) :: rest)) :=
  z_ld C h (11 + w) (by rcases (show w = 0 ∨ w = 1 ∨ w = 2 ∨ w = 3 by omega) with rfl | rfl | rfl | rfl <;> rfl) hin hdg kk
theorem s_tal (C : zCx p s m args c cc nL own dC dI k) (h : zH dC dI k q X M A H0 H locs) {w : Nat} (hw : w < 4) {j x : Int32} (hin : vp_in j 4) (hdg : decode cc pc = .ok (.iastore, 1)) (kk : ∀ (H1 : Heap) (locs1 : List Loc), zH dC dI k q (u3 X 1 w j.toNatClampNeg x) M A H0 H1 locs1 → W p l e R s m args below meth c H1 locs1 cells slots Q (F0 m (pc + 1) ls rest)) : W p l e R s m args below meth c H locs cells slots Q (F0 m pc ls (.int x :: .int j :: .ref (q (11 + w)) :: rest)) :=
  z_st (f := (X 1 w)) C h (11 + w) (by rcases (show w = 0 ∨ w = 1 ∨ w = 2 ∨ w = 3 by omega) with rfl | rfl | rfl | rfl <;> rfl) hin (by rcases (show w = 0 ∨ w = 1 ∨ w = 2 ∨ w = 3 by omega) with rfl | rfl | rfl | rfl <;> rfl) hdg kk
theorem l_st (C : zCx p s m args c cc nL own dC dI k) (h : zH dC dI k q X M A H0 H locs) {j0 : Nat} (hj : j0 < 4) {j : Int32} (hin : vp_in j 4) (hdg : decode cc pc = .ok (.iaload, 1)) (kk : W p l e R s m args below meth c H locs cells slots Q (F0 m (pc + 1) ls (.int ((X 3 j0) j.toNatClampNeg) :: rest))) : W p l e R s m args below meth c H locs cells slots Q (F0 m pc ls (.int j :: .ref (q (17 + 4 * j0)) :: rest)) :=
  z_ld C h (17 + 4 * j0) (by rcases (show j0 = 0 ∨ j0 = 1 ∨ j0 = 2 ∨ j0 = 3 by omega) with rfl | rfl | rfl | rfl <;> rfl) hin hdg kk
theorem s_st (C : zCx p s m args c cc nL own dC dI k) (h : zH dC dI k q X M A H0 H locs) {j0 : Nat} (hj : j0 < 4) {j x : Int32} (hin : vp_in j 4) (hdg : decode cc pc = .ok (.iastore, 1)) (kk : ∀ (H1 : Heap) (locs1 : List Loc), zH dC dI k q (u3 X 3 j0 j.toNatClampNeg x) M A H0 H1 locs1 → W p l e R s m args below meth c H1 locs1 cells slots Q (F0 m (pc + 1) ls rest)) : W p l e R s m args below meth c H locs cells slots Q (F0 m pc ls (.int x :: .int j :: .ref (q (17 + 4 * j0)) :: rest)) :=
  z_st (f := (X 3 j0)) C h (17 + 4 * j0) (by rcases (show j0 = 0 ∨ j0 = 1 ∨ j0 = 2 ∨ j0 = 3 by omega) with rfl | rfl | rfl | rfl <;> rfl) hin (by rcases (show j0 = 0 ∨ j0 = 1 ∨ j0 = 2 ∨ j0 = 3 by omega) with rfl | rfl | rfl | rfl <;> rfl) hdg kk
theorem l_val (C : zCx p s m args c cc nL own dC dI k) (h : zH dC dI k q X M A H0 H locs) {j0 : Nat} (hj : j0 < 4) {j : Int32} (hin : vp_in j 4) (hdg : decode cc pc = .ok (.iaload, 1)) (kk : W p l e R s m args below meth c H locs cells slots Q (F0 m (pc + 1) ls (.int ((X 4 j0) j.toNatClampNeg) :: rest))) : W p l e R s m args below meth c H locs cells slots Q (F0 m pc ls (.int j :: .ref (q (18 + 4 * j0)) :: rest)) :=
  z_ld C h (18 + 4 * j0) (by rcases (show j0 = 0 ∨ j0 = 1 ∨ j0 = 2 ∨ j0 = 3 by omega) with rfl | rfl | rfl | rfl <;> rfl) hin hdg kk
theorem s_val (C : zCx p s m args c cc nL own dC dI k) (h : zH dC dI k q X M A H0 H locs) {j0 : Nat} (hj : j0 < 4) {j x : Int32} (hin : vp_in j 4) (hdg : decode cc pc = .ok (.iastore, 1)) (kk : ∀ (H1 : Heap) (locs1 : List Loc), zH dC dI k q (u3 X 4 j0 j.toNatClampNeg x) M A H0 H1 locs1 → W p l e R s m args below meth c H1 locs1 cells slots Q (F0 m (pc + 1) ls rest)) : W p l e R s m args below meth c H locs cells slots Q (F0 m pc ls (.int x :: .int j :: .ref (q (18 + 4 * j0)) :: rest)) :=
  z_st (f := (X 4 j0)) C h (18 + 4 * j0) (by rcases (show j0 = 0 ∨ j0 = 1 ∨ j0 = 2 ∨ j0 = 3 by omega) with rfl | rfl | rfl | rfl <;> rfl) hin (by rcases (show j0 = 0 ∨ j0 = 1 ∨ j0 = 2 ∨ j0 = 3 by omega) with rfl | rfl | rfl | rfl <;> rfl) hdg kk
theorem l_ow (C : zCx p s m args c cc nL own dC dI k) (h : zH dC dI k q X M A H0 H locs) {j0 : Nat} (hj : j0 < 4) {j : Int32} (hin : vp_in j 4) (hdg : decode cc pc = .ok (.iaload, 1)) (kk : W p l e R s m args below meth c H locs cells slots Q (F0 m (pc + 1) ls (.int ((X 5 j0) j.toNatClampNeg) :: rest))) : W p l e R s m args below meth c H locs cells slots Q (F0 m pc ls (.int j :: .ref (q (19 + 4 * j0)) :: rest)) :=
  z_ld C h (19 + 4 * j0) (by rcases (show j0 = 0 ∨ j0 = 1 ∨ j0 = 2 ∨ j0 = 3 by omega) with rfl | rfl | rfl | rfl <;> rfl) hin hdg kk
theorem s_ow (C : zCx p s m args c cc nL own dC dI k) (h : zH dC dI k q X M A H0 H locs) {j0 : Nat} (hj : j0 < 4) {j x : Int32} (hin : vp_in j 4) (hdg : decode cc pc = .ok (.iastore, 1)) (kk : ∀ (H1 : Heap) (locs1 : List Loc), zH dC dI k q (u3 X 5 j0 j.toNatClampNeg x) M A H0 H1 locs1 → W p l e R s m args below meth c H1 locs1 cells slots Q (F0 m (pc + 1) ls rest)) : W p l e R s m args below meth c H locs cells slots Q (F0 m pc ls (.int x :: .int j :: .ref (q (19 + 4 * j0)) :: rest)) :=
  z_st (f := (X 5 j0)) C h (19 + 4 * j0) (by rcases (show j0 = 0 ∨ j0 = 1 ∨ j0 = 2 ∨ j0 = 3 by omega) with rfl | rfl | rfl | rfl <;> rfl) hin (by rcases (show j0 = 0 ∨ j0 = 1 ∨ j0 = 2 ∨ j0 = 3 by omega) with rfl | rfl | rfl | rfl <;> rfl) hdg kk
theorem l_mem (C : zCx p s m args c cc nL own dC dI k) (h : zH dC dI k q X M A H0 H locs) {j : Int32} (hin : vp_in j 4) (hdg : decode cc pc = .ok (.iaload, 1)) (kk : W p l e R s m args below meth c H locs cells slots Q (F0 m (pc + 1) ls (.int ((X 11 0) j.toNatClampNeg) :: rest))) : W p l e R s m args below meth c H locs cells slots Q (F0 m pc ls (.int j :: .ref (q 33) :: rest)) :=
  z_ld C h 33 rfl hin hdg kk
theorem s_mem (C : zCx p s m args c cc nL own dC dI k) (h : zH dC dI k q X M A H0 H locs) {j x : Int32} (hin : vp_in j 4) (hdg : decode cc pc = .ok (.iastore, 1)) (kk : ∀ (H1 : Heap) (locs1 : List Loc), zH dC dI k q (u3 X 11 0 j.toNatClampNeg x) M A H0 H1 locs1 → W p l e R s m args below meth c H1 locs1 cells slots Q (F0 m (pc + 1) ls rest)) : W p l e R s m args below meth c H locs cells slots Q (F0 m pc ls (.int x :: .int j :: .ref (q 33) :: rest)) :=
  z_st (f := (X 11 0)) C h 33 rfl hin rfl hdg kk
theorem l_kee (C : zCx p s m args c cc nL own dC dI k) (h : zH dC dI k q X M A H0 H locs) {j : Int32} (hin : vp_in j 4) (hdg : decode cc pc = .ok (.iaload, 1)) (kk : W p l e R s m args below meth c H locs cells slots Q (F0 m (pc + 1) ls (.int ((X 12 0) j.toNatClampNeg) :: rest))) : W p l e R s m args below meth c H locs cells slots Q (F0 m pc ls (.int j :: .ref (q 34) :: rest)) :=
  z_ld C h 34 rfl hin hdg kk
theorem s_kee (C : zCx p s m args c cc nL own dC dI k) (h : zH dC dI k q X M A H0 H locs) {j x : Int32} (hin : vp_in j 4) (hdg : decode cc pc = .ok (.iastore, 1)) (kk : ∀ (H1 : Heap) (locs1 : List Loc), zH dC dI k q (u3 X 12 0 j.toNatClampNeg x) M A H0 H1 locs1 → W p l e R s m args below meth c H1 locs1 cells slots Q (F0 m (pc + 1) ls rest)) : W p l e R s m args below meth c H locs cells slots Q (F0 m pc ls (.int x :: .int j :: .ref (q 34) :: rest)) :=
  z_st (f := (X 12 0)) C h 34 rfl hin rfl hdg kk
theorem l_own (C : zCx p s m args c cc nL own dC dI k) (h : zH dC dI k q X M A H0 H locs) {j : Int32} (hin : vp_in j 4) (hdg : decode cc pc = .ok (.iaload, 1)) (kk : W p l e R s m args below meth c H locs cells slots Q (F0 m (pc + 1) ls (.int ((X 13 0) j.toNatClampNeg) :: rest))) : W p l e R s m args below meth c H locs cells slots Q (F0 m pc ls (.int j :: .ref (q 35) :: rest)) :=
  z_ld C h 35 rfl hin hdg kk
theorem s_own (C : zCx p s m args c cc nL own dC dI k) (h : zH dC dI k q X M A H0 H locs) {j x : Int32} (hin : vp_in j 4) (hdg : decode cc pc = .ok (.iastore, 1)) (kk : ∀ (H1 : Heap) (locs1 : List Loc), zH dC dI k q (u3 X 13 0 j.toNatClampNeg x) M A H0 H1 locs1 → W p l e R s m args below meth c H1 locs1 cells slots Q (F0 m (pc + 1) ls rest)) : W p l e R s m args below meth c H locs cells slots Q (F0 m pc ls (.int x :: .int j :: .ref (q 35) :: rest)) :=
  z_st (f := (X 13 0)) C h 35 rfl hin rfl hdg kk
theorem l_sha (C : zCx p s m args c cc nL own dC dI k) (h : zH dC dI k q X M A H0 H locs) {j : Int32} (hin : vp_in j 4) (hdg : decode cc pc = .ok (.iaload, 1)) (kk : W p l e R s m args below meth c H locs cells slots Q (F0 m (pc + 1) ls (.int ((X 14 0) j.toNatClampNeg) :: rest))) : W p l e R s m args below meth c H locs cells slots Q (F0 m pc ls (.int j :: .ref (q 36) :: rest)) :=
  z_ld C h 36 rfl hin hdg kk
theorem s_sha (C : zCx p s m args c cc nL own dC dI k) (h : zH dC dI k q X M A H0 H locs) {j x : Int32} (hin : vp_in j 4) (hdg : decode cc pc = .ok (.iastore, 1)) (kk : ∀ (H1 : Heap) (locs1 : List Loc), zH dC dI k q (u3 X 14 0 j.toNatClampNeg x) M A H0 H1 locs1 → W p l e R s m args below meth c H1 locs1 cells slots Q (F0 m (pc + 1) ls rest)) : W p l e R s m args below meth c H locs cells slots Q (F0 m pc ls (.int x :: .int j :: .ref (q 36) :: rest)) :=
  z_st (f := (X 14 0)) C h 36 rfl hin rfl hdg kk
theorem l_M0 (C : zCx p s m args c cc nL own dC dI k) (h : zH dC dI k q X M A H0 H locs) {j : Int32} (hin : vp_in j 16) (hdg : decode cc pc = .ok (.iaload, 1)) (kk : W p l e R s m args below meth c H locs cells slots Q (F0 m (pc + 1) ls (.int ((M 0) j.toNatClampNeg) :: rest))) : W p l e R s m args below meth c H locs cells slots Q (F0 m pc ls (.int j :: .ref (q 38) :: rest)) :=
  z_ld C h 38 rfl hin hdg kk
theorem s_M0 (C : zCx p s m args c cc nL own dC dI k) (h : zH dC dI k q X M A H0 H locs) {j x : Int32} (hin : vp_in j 16) (hdg : decode cc pc = .ok (.iastore, 1)) (kk : ∀ (H1 : Heap) (locs1 : List Loc), zH dC dI k q X (u2 M 0 j.toNatClampNeg x) A H0 H1 locs1 → W p l e R s m args below meth c H1 locs1 cells slots Q (F0 m (pc + 1) ls rest)) : W p l e R s m args below meth c H locs cells slots Q (F0 m pc ls (.int x :: .int j :: .ref (q 38) :: rest)) :=
  z_st (f := (M 0)) C h 38 rfl hin rfl hdg kk
theorem l_M1 (C : zCx p s m args c cc nL own dC dI k) (h : zH dC dI k q X M A H0 H locs) {j : Int32} (hin : vp_in j 16) (hdg : decode cc pc = .ok (.iaload, 1)) (kk : W p l e R s m args below meth c H locs cells slots Q (F0 m (pc + 1) ls (.int ((M 1) j.toNatClampNeg) :: rest))) : W p l e R s m args below meth c H locs cells slots Q (F0 m pc ls (.int j :: .ref (q 39) :: rest)) :=
  z_ld C h 39 rfl hin hdg kk
theorem s_M1 (C : zCx p s m args c cc nL own dC dI k) (h : zH dC dI k q X M A H0 H locs) {j x : Int32} (hin : vp_in j 16) (hdg : decode cc pc = .ok (.iastore, 1)) (kk : ∀ (H1 : Heap) (locs1 : List Loc), zH dC dI k q X (u2 M 1 j.toNatClampNeg x) A H0 H1 locs1 → W p l e R s m args below meth c H1 locs1 cells slots Q (F0 m (pc + 1) ls rest)) : W p l e R s m args below meth c H locs cells slots Q (F0 m pc ls (.int x :: .int j :: .ref (q 39) :: rest)) :=
  z_st (f := (M 1)) C h 39 rfl hin rfl hdg kk
theorem l_M2 (C : zCx p s m args c cc nL own dC dI k) (h : zH dC dI k q X M A H0 H locs) {j : Int32} (hin : vp_in j 16) (hdg : decode cc pc = .ok (.iaload, 1)) (kk : W p l e R s m args below meth c H locs cells slots Q (F0 m (pc + 1) ls (.int ((M 2) j.toNatClampNeg) :: rest))) : W p l e R s m args below meth c H locs cells slots Q (F0 m pc ls (.int j :: .ref (q 40) :: rest)) :=
  z_ld C h 40 rfl hin hdg kk
theorem s_M2 (C : zCx p s m args c cc nL own dC dI k) (h : zH dC dI k q X M A H0 H locs) {j x : Int32} (hin : vp_in j 16) (hdg : decode cc pc = .ok (.iastore, 1)) (kk : ∀ (H1 : Heap) (locs1 : List Loc), zH dC dI k q X (u2 M 2 j.toNatClampNeg x) A H0 H1 locs1 → W p l e R s m args below meth c H1 locs1 cells slots Q (F0 m (pc + 1) ls rest)) : W p l e R s m args below meth c H locs cells slots Q (F0 m pc ls (.int x :: .int j :: .ref (q 40) :: rest)) :=
  z_st (f := (M 2)) C h 40 rfl hin rfl hdg kk
theorem l_M3 (C : zCx p s m args c cc nL own dC dI k) (h : zH dC dI k q X M A H0 H locs) {j : Int32} (hin : vp_in j 16) (hdg : decode cc pc = .ok (.iaload, 1)) (kk : W p l e R s m args below meth c H locs cells slots Q (F0 m (pc + 1) ls (.int ((M 3) j.toNatClampNeg) :: rest))) : W p l e R s m args below meth c H locs cells slots Q (F0 m pc ls (.int j :: .ref (q 41) :: rest)) :=
  z_ld C h 41 rfl hin hdg kk
theorem s_M3 (C : zCx p s m args c cc nL own dC dI k) (h : zH dC dI k q X M A H0 H locs) {j x : Int32} (hin : vp_in j 16) (hdg : decode cc pc = .ok (.iastore, 1)) (kk : ∀ (H1 : Heap) (locs1 : List Loc), zH dC dI k q X (u2 M 3 j.toNatClampNeg x) A H0 H1 locs1 → W p l e R s m args below meth c H1 locs1 cells slots Q (F0 m (pc + 1) ls rest)) : W p l e R s m args below meth c H locs cells slots Q (F0 m pc ls (.int x :: .int j :: .ref (q 41) :: rest)) :=
  z_st (f := (M 3)) C h 41 rfl hin rfl hdg kk
theorem l_M4 (C : zCx p s m args c cc nL own dC dI k) (h : zH dC dI k q X M A H0 H locs) {j : Int32} (hin : vp_in j 16) (hdg : decode cc pc = .ok (.iaload, 1)) (kk : W p l e R s m args below meth c H locs cells slots Q (F0 m (pc + 1) ls (.int ((M 4) j.toNatClampNeg) :: rest))) : W p l e R s m args below meth c H locs cells slots Q (F0 m pc ls (.int j :: .ref (q 42) :: rest)) :=
  z_ld C h 42 rfl hin hdg kk
theorem s_M4 (C : zCx p s m args c cc nL own dC dI k) (h : zH dC dI k q X M A H0 H locs) {j x : Int32} (hin : vp_in j 16) (hdg : decode cc pc = .ok (.iastore, 1)) (kk : ∀ (H1 : Heap) (locs1 : List Loc), zH dC dI k q X (u2 M 4 j.toNatClampNeg x) A H0 H1 locs1 → W p l e R s m args below meth c H1 locs1 cells slots Q (F0 m (pc + 1) ls rest)) : W p l e R s m args below meth c H locs cells slots Q (F0 m pc ls (.int x :: .int j :: .ref (q 42) :: rest)) :=
  z_st (f := (M 4)) C h 42 rfl hin rfl hdg kk
theorem l_M6 (C : zCx p s m args c cc nL own dC dI k) (h : zH dC dI k q X M A H0 H locs) {j : Int32} (hin : vp_in j 4) (hdg : decode cc pc = .ok (.iaload, 1)) (kk : W p l e R s m args below meth c H locs cells slots Q (F0 m (pc + 1) ls (.int ((M 6) j.toNatClampNeg) :: rest))) : W p l e R s m args below meth c H locs cells slots Q (F0 m pc ls (.int j :: .ref (q 44) :: rest)) :=
  z_ld C h 44 rfl hin hdg kk
theorem s_M6 (C : zCx p s m args c cc nL own dC dI k) (h : zH dC dI k q X M A H0 H locs) {j x : Int32} (hin : vp_in j 4) (hdg : decode cc pc = .ok (.iastore, 1)) (kk : ∀ (H1 : Heap) (locs1 : List Loc), zH dC dI k q X (u2 M 6 j.toNatClampNeg x) A H0 H1 locs1 → W p l e R s m args below meth c H1 locs1 cells slots Q (F0 m (pc + 1) ls rest)) : W p l e R s m args below meth c H locs cells slots Q (F0 m pc ls (.int x :: .int j :: .ref (q 44) :: rest)) :=
  z_st (f := (M 6)) C h 44 rfl hin rfl hdg kk
theorem l_M7 (C : zCx p s m args c cc nL own dC dI k) (h : zH dC dI k q X M A H0 H locs) {j : Int32} (hin : vp_in j 4) (hdg : decode cc pc = .ok (.iaload, 1)) (kk : W p l e R s m args below meth c H locs cells slots Q (F0 m (pc + 1) ls (.int ((M 7) j.toNatClampNeg) :: rest))) : W p l e R s m args below meth c H locs cells slots Q (F0 m pc ls (.int j :: .ref (q 45) :: rest)) :=
  z_ld C h 45 rfl hin hdg kk
theorem s_M7 (C : zCx p s m args c cc nL own dC dI k) (h : zH dC dI k q X M A H0 H locs) {j x : Int32} (hin : vp_in j 4) (hdg : decode cc pc = .ok (.iastore, 1)) (kk : ∀ (H1 : Heap) (locs1 : List Loc), zH dC dI k q X (u2 M 7 j.toNatClampNeg x) A H0 H1 locs1 → W p l e R s m args below meth c H1 locs1 cells slots Q (F0 m (pc + 1) ls rest)) : W p l e R s m args below meth c H locs cells slots Q (F0 m pc ls (.int x :: .int j :: .ref (q 45) :: rest)) :=
  z_st (f := (M 7)) C h 45 rfl hin rfl hdg kk
theorem l_M8 (C : zCx p s m args c cc nL own dC dI k) (h : zH dC dI k q X M A H0 H locs) {j : Int32} (hin : vp_in j 4) (hdg : decode cc pc = .ok (.iaload, 1)) (kk : W p l e R s m args below meth c H locs cells slots Q (F0 m (pc + 1) ls (.int ((M 8) j.toNatClampNeg) :: rest))) : W p l e R s m args below meth c H locs cells slots Q (F0 m pc ls (.int j :: .ref (q 46) :: rest)) :=
  z_ld C h 46 rfl hin hdg kk
theorem s_M8 (C : zCx p s m args c cc nL own dC dI k) (h : zH dC dI k q X M A H0 H locs) {j x : Int32} (hin : vp_in j 4) (hdg : decode cc pc = .ok (.iastore, 1)) (kk : ∀ (H1 : Heap) (locs1 : List Loc), zH dC dI k q X (u2 M 8 j.toNatClampNeg x) A H0 H1 locs1 → W p l e R s m args below meth c H1 locs1 cells slots Q (F0 m (pc + 1) ls rest)) : W p l e R s m args below meth c H locs cells slots Q (F0 m pc ls (.int x :: .int j :: .ref (q 46) :: rest)) :=
  z_st (f := (M 8)) C h 46 rfl hin rfl hdg kk
theorem l_M9 (C : zCx p s m args c cc nL own dC dI k) (h : zH dC dI k q X M A H0 H locs) {j : Int32} (hin : vp_in j 4) (hdg : decode cc pc = .ok (.iaload, 1)) (kk : W p l e R s m args below meth c H locs cells slots Q (F0 m (pc + 1) ls (.int ((M 9) j.toNatClampNeg) :: rest))) : W p l e R s m args below meth c H locs cells slots Q (F0 m pc ls (.int j :: .ref (q 47) :: rest)) :=
  z_ld C h 47 rfl hin hdg kk
theorem s_M9 (C : zCx p s m args c cc nL own dC dI k) (h : zH dC dI k q X M A H0 H locs) {j x : Int32} (hin : vp_in j 4) (hdg : decode cc pc = .ok (.iastore, 1)) (kk : ∀ (H1 : Heap) (locs1 : List Loc), zH dC dI k q X (u2 M 9 j.toNatClampNeg x) A H0 H1 locs1 → W p l e R s m args below meth c H1 locs1 cells slots Q (F0 m (pc + 1) ls rest)) : W p l e R s m args below meth c H locs cells slots Q (F0 m pc ls (.int x :: .int j :: .ref (q 47) :: rest)) :=
  z_st (f := (M 9)) C h 47 rfl hin rfl hdg kk
theorem l_M10 (C : zCx p s m args c cc nL own dC dI k) (h : zH dC dI k q X M A H0 H locs) {j : Int32} (hin : vp_in j 4) (hdg : decode cc pc = .ok (.iaload, 1)) (kk : W p l e R s m args below meth c H locs cells slots Q (F0 m (pc + 1) ls (.int ((M 10) j.toNatClampNeg) :: rest))) : W p l e R s m args below meth c H locs cells slots Q (F0 m pc ls (.int j :: .ref (q 48) :: rest)) :=
  z_ld C h 48 rfl hin hdg kk
theorem s_M10 (C : zCx p s m args c cc nL own dC dI k) (h : zH dC dI k q X M A H0 H locs) {j x : Int32} (hin : vp_in j 4) (hdg : decode cc pc = .ok (.iastore, 1)) (kk : ∀ (H1 : Heap) (locs1 : List Loc), zH dC dI k q X (u2 M 10 j.toNatClampNeg x) A H0 H1 locs1 → W p l e R s m args below meth c H1 locs1 cells slots Q (F0 m (pc + 1) ls rest)) : W p l e R s m args below meth c H locs cells slots Q (F0 m pc ls (.int x :: .int j :: .ref (q 48) :: rest)) :=
  z_st (f := (M 10)) C h 48 rfl hin rfl hdg kk
theorem l_M11 (C : zCx p s m args c cc nL own dC dI k) (h : zH dC dI k q X M A H0 H locs) {j : Int32} (hin : vp_in j 4) (hdg : decode cc pc = .ok (.iaload, 1)) (kk : W p l e R s m args below meth c H locs cells slots Q (F0 m (pc + 1) ls (.int ((M 11) j.toNatClampNeg) :: rest))) : W p l e R s m args below meth c H locs cells slots Q (F0 m pc ls (.int j :: .ref (q 49) :: rest)) :=
  z_ld C h 49 rfl hin hdg kk
theorem s_M11 (C : zCx p s m args c cc nL own dC dI k) (h : zH dC dI k q X M A H0 H locs) {j x : Int32} (hin : vp_in j 4) (hdg : decode cc pc = .ok (.iastore, 1)) (kk : ∀ (H1 : Heap) (locs1 : List Loc), zH dC dI k q X (u2 M 11 j.toNatClampNeg x) A H0 H1 locs1 → W p l e R s m args below meth c H1 locs1 cells slots Q (F0 m (pc + 1) ls rest)) : W p l e R s m args below meth c H locs cells slots Q (F0 m pc ls (.int x :: .int j :: .ref (q 49) :: rest)) :=
  z_st (f := (M 11)) C h 49 rfl hin rfl hdg kk
theorem l_M12 (C : zCx p s m args c cc nL own dC dI k) (h : zH dC dI k q X M A H0 H locs) {j : Int32} (hin : vp_in j 4) (hdg : decode cc pc = .ok (.iaload, 1)) (kk : W p l e R s m args below meth c H locs cells slots Q (F0 m (pc + 1) ls (.int ((M 12) j.toNatClampNeg) :: rest))) : W p l e R s m args below meth c H locs cells slots Q (F0 m pc ls (.int j :: .ref (q 50) :: rest)) :=
  z_ld C h 50 rfl hin hdg kk
theorem s_M12 (C : zCx p s m args c cc nL own dC dI k) (h : zH dC dI k q X M A H0 H locs) {j x : Int32} (hin : vp_in j 4) (hdg : decode cc pc = .ok (.iastore, 1)) (kk : ∀ (H1 : Heap) (locs1 : List Loc), zH dC dI k q X (u2 M 12 j.toNatClampNeg x) A H0 H1 locs1 → W p l e R s m args below meth c H1 locs1 cells slots Q (F0 m (pc + 1) ls rest)) : W p l e R s m args below meth c H locs cells slots Q (F0 m pc ls (.int x :: .int j :: .ref (q 50) :: rest)) :=
  z_st (f := (M 12)) C h 50 rfl hin rfl hdg kk
theorem l_M13 (C : zCx p s m args c cc nL own dC dI k) (h : zH dC dI k q X M A H0 H locs) {j : Int32} (hin : vp_in j 4) (hdg : decode cc pc = .ok (.iaload, 1)) (kk : W p l e R s m args below meth c H locs cells slots Q (F0 m (pc + 1) ls (.int ((M 13) j.toNatClampNeg) :: rest))) : W p l e R s m args below meth c H locs cells slots Q (F0 m pc ls (.int j :: .ref (q 51) :: rest)) :=
  z_ld C h 51 rfl hin hdg kk
theorem s_M13 (C : zCx p s m args c cc nL own dC dI k) (h : zH dC dI k q X M A H0 H locs) {j x : Int32} (hin : vp_in j 4) (hdg : decode cc pc = .ok (.iastore, 1)) (kk : ∀ (H1 : Heap) (locs1 : List Loc), zH dC dI k q X (u2 M 13 j.toNatClampNeg x) A H0 H1 locs1 → W p l e R s m args below meth c H1 locs1 cells slots Q (F0 m (pc + 1) ls rest)) : W p l e R s m args below meth c H locs cells slots Q (F0 m pc ls (.int x :: .int j :: .ref (q 51) :: rest)) :=
  z_st (f := (M 13)) C h 51 rfl hin rfl hdg kk
theorem l_M14 (C : zCx p s m args c cc nL own dC dI k) (h : zH dC dI k q X M A H0 H locs) {j : Int32} (hin : vp_in j 4) (hdg : decode cc pc = .ok (.iaload, 1)) (kk : W p l e R s m args below meth c H locs cells slots Q (F0 m (pc + 1) ls (.int ((M 14) j.toNatClampNeg) :: rest))) : W p l e R s m args below meth c H locs cells slots Q (F0 m pc ls (.int j :: .ref (q 52) :: rest)) :=
  z_ld C h 52 rfl hin hdg kk
theorem s_M14 (C : zCx p s m args c cc nL own dC dI k) (h : zH dC dI k q X M A H0 H locs) {j x : Int32} (hin : vp_in j 4) (hdg : decode cc pc = .ok (.iastore, 1)) (kk : ∀ (H1 : Heap) (locs1 : List Loc), zH dC dI k q X (u2 M 14 j.toNatClampNeg x) A H0 H1 locs1 → W p l e R s m args below meth c H1 locs1 cells slots Q (F0 m (pc + 1) ls rest)) : W p l e R s m args below meth c H locs cells slots Q (F0 m pc ls (.int x :: .int j :: .ref (q 52) :: rest)) :=
  z_st (f := (M 14)) C h 52 rfl hin rfl hdg kk
theorem l_M16 (C : zCx p s m args c cc nL own dC dI k) (h : zH dC dI k q X M A H0 H locs) {j : Int32} (hin : vp_in j 200) (hdg : decode cc pc = .ok (.iaload, 1)) (kk : W p l e R s m args below meth c H locs cells slots Q (F0 m (pc + 1) ls (.int ((M 16) j.toNatClampNeg) :: rest))) : W p l e R s m args below meth c H locs cells slots Q (F0 m pc ls (.int j :: .ref (q 53) :: rest)) :=
  z_ld C h 53 rfl hin hdg kk
theorem s_M16 (C : zCx p s m args c cc nL own dC dI k) (h : zH dC dI k q X M A H0 H locs) {j x : Int32} (hin : vp_in j 200) (hdg : decode cc pc = .ok (.iastore, 1)) (kk : ∀ (H1 : Heap) (locs1 : List Loc), zH dC dI k q X (u2 M 16 j.toNatClampNeg x) A H0 H1 locs1 → W p l e R s m args below meth c H1 locs1 cells slots Q (F0 m (pc + 1) ls rest)) : W p l e R s m args below meth c H locs cells slots Q (F0 m pc ls (.int x :: .int j :: .ref (q 53) :: rest)) :=
  z_st (f := (M 16)) C h 53 rfl hin rfl hdg kk
theorem l_M17 (C : zCx p s m args c cc nL own dC dI k) (h : zH dC dI k q X M A H0 H locs) {j : Int32} (hin : vp_in j 200) (hdg : decode cc pc = .ok (.iaload, 1)) (kk : W p l e R s m args below meth c H locs cells slots Q (F0 m (pc + 1) ls (.int ((M 17) j.toNatClampNeg) :: rest))) : W p l e R s m args below meth c H locs cells slots Q (F0 m pc ls (.int j :: .ref (q 54) :: rest)) :=
  z_ld C h 54 rfl hin hdg kk
theorem s_M17 (C : zCx p s m args c cc nL own dC dI k) (h : zH dC dI k q X M A H0 H locs) {j x : Int32} (hin : vp_in j 200) (hdg : decode cc pc = .ok (.iastore, 1)) (kk : ∀ (H1 : Heap) (locs1 : List Loc), zH dC dI k q X (u2 M 17 j.toNatClampNeg x) A H0 H1 locs1 → W p l e R s m args below meth c H1 locs1 cells slots Q (F0 m (pc + 1) ls rest)) : W p l e R s m args below meth c H locs cells slots Q (F0 m pc ls (.int x :: .int j :: .ref (q 54) :: rest)) :=
  z_st (f := (M 17)) C h 54 rfl hin rfl hdg kk
theorem l_M18 (C : zCx p s m args c cc nL own dC dI k) (h : zH dC dI k q X M A H0 H locs) {j : Int32} (hin : vp_in j 200) (hdg : decode cc pc = .ok (.iaload, 1)) (kk : W p l e R s m args below meth c H locs cells slots Q (F0 m (pc + 1) ls (.int ((M 18) j.toNatClampNeg) :: rest))) : W p l e R s m args below meth c H locs cells slots Q (F0 m pc ls (.int j :: .ref (q 55) :: rest)) :=
  z_ld C h 55 rfl hin hdg kk
theorem s_M18 (C : zCx p s m args c cc nL own dC dI k) (h : zH dC dI k q X M A H0 H locs) {j x : Int32} (hin : vp_in j 200) (hdg : decode cc pc = .ok (.iastore, 1)) (kk : ∀ (H1 : Heap) (locs1 : List Loc), zH dC dI k q X (u2 M 18 j.toNatClampNeg x) A H0 H1 locs1 → W p l e R s m args below meth c H1 locs1 cells slots Q (F0 m (pc + 1) ls rest)) : W p l e R s m args below meth c H locs cells slots Q (F0 m pc ls (.int x :: .int j :: .ref (q 55) :: rest)) :=
  z_st (f := (M 18)) C h 55 rfl hin rfl hdg kk
theorem l_M19 (C : zCx p s m args c cc nL own dC dI k) (h : zH dC dI k q X M A H0 H locs) {j : Int32} (hin : vp_in j 200) (hdg : decode cc pc = .ok (.iaload, 1)) (kk : W p l e R s m args below meth c H locs cells slots Q (F0 m (pc + 1) ls (.int ((M 19) j.toNatClampNeg) :: rest))) : W p l e R s m args below meth c H locs cells slots Q (F0 m pc ls (.int j :: .ref (q 56) :: rest)) :=
  z_ld C h 56 rfl hin hdg kk
theorem s_M19 (C : zCx p s m args c cc nL own dC dI k) (h : zH dC dI k q X M A H0 H locs) {j x : Int32} (hin : vp_in j 200) (hdg : decode cc pc = .ok (.iastore, 1)) (kk : ∀ (H1 : Heap) (locs1 : List Loc), zH dC dI k q X (u2 M 19 j.toNatClampNeg x) A H0 H1 locs1 → W p l e R s m args below meth c H1 locs1 cells slots Q (F0 m (pc + 1) ls rest)) : W p l e R s m args below meth c H locs cells slots Q (F0 m pc ls (.int x :: .int j :: .ref (q 56) :: rest)) :=
  z_st (f := (M 19)) C h 56 rfl hin rfl hdg kk
theorem l_M20 (C : zCx p s m args c cc nL own dC dI k) (h : zH dC dI k q X M A H0 H locs) {j : Int32} (hin : vp_in j 200) (hdg : decode cc pc = .ok (.iaload, 1)) (kk : W p l e R s m args below meth c H locs cells slots Q (F0 m (pc + 1) ls (.int ((M 20) j.toNatClampNeg) :: rest))) : W p l e R s m args below meth c H locs cells slots Q (F0 m pc ls (.int j :: .ref (q 57) :: rest)) :=
  z_ld C h 57 rfl hin hdg kk
theorem s_M20 (C : zCx p s m args c cc nL own dC dI k) (h : zH dC dI k q X M A H0 H locs) {j x : Int32} (hin : vp_in j 200) (hdg : decode cc pc = .ok (.iastore, 1)) (kk : ∀ (H1 : Heap) (locs1 : List Loc), zH dC dI k q X (u2 M 20 j.toNatClampNeg x) A H0 H1 locs1 → W p l e R s m args below meth c H1 locs1 cells slots Q (F0 m (pc + 1) ls rest)) : W p l e R s m args below meth c H locs cells slots Q (F0 m pc ls (.int x :: .int j :: .ref (q 57) :: rest)) :=
  z_st (f := (M 20)) C h 57 rfl hin rfl hdg kk
theorem l_M21 (C : zCx p s m args c cc nL own dC dI k) (h : zH dC dI k q X M A H0 H locs) {j : Int32} (hin : vp_in j 200) (hdg : decode cc pc = .ok (.iaload, 1)) (kk : W p l e R s m args below meth c H locs cells slots Q (F0 m (pc + 1) ls (.int ((M 21) j.toNatClampNeg) :: rest))) : W p l e R s m args below meth c H locs cells slots Q (F0 m pc ls (.int j :: .ref (q 58) :: rest)) :=
  z_ld C h 58 rfl hin hdg kk
theorem s_M21 (C : zCx p s m args c cc nL own dC dI k) (h : zH dC dI k q X M A H0 H locs) {j x : Int32} (hin : vp_in j 200) (hdg : decode cc pc = .ok (.iastore, 1)) (kk : ∀ (H1 : Heap) (locs1 : List Loc), zH dC dI k q X (u2 M 21 j.toNatClampNeg x) A H0 H1 locs1 → W p l e R s m args below meth c H1 locs1 cells slots Q (F0 m (pc + 1) ls rest)) : W p l e R s m args below meth c H locs cells slots Q (F0 m pc ls (.int x :: .int j :: .ref (q 58) :: rest)) :=
  z_st (f := (M 21)) C h 58 rfl hin rfl hdg kk
theorem l_M22 (C : zCx p s m args c cc nL own dC dI k) (h : zH dC dI k q X M A H0 H locs) {j : Int32} (hin : vp_in j 200) (hdg : decode cc pc = .ok (.iaload, 1)) (kk : W p l e R s m args below meth c H locs cells slots Q (F0 m (pc + 1) ls (.int ((M 22) j.toNatClampNeg) :: rest))) : W p l e R s m args below meth c H locs cells slots Q (F0 m pc ls (.int j :: .ref (q 59) :: rest)) :=
  z_ld C h 59 rfl hin hdg kk
theorem s_M22 (C : zCx p s m args c cc nL own dC dI k) (h : zH dC dI k q X M A H0 H locs) {j x : Int32} (hin : vp_in j 200) (hdg : decode cc pc = .ok (.iastore, 1)) (kk : ∀ (H1 : Heap) (locs1 : List Loc), zH dC dI k q X (u2 M 22 j.toNatClampNeg x) A H0 H1 locs1 → W p l e R s m args below meth c H1 locs1 cells slots Q (F0 m (pc + 1) ls rest)) : W p l e R s m args below meth c H locs cells slots Q (F0 m pc ls (.int x :: .int j :: .ref (q 59) :: rest)) :=
  z_st (f := (M 22)) C h 59 rfl hin rfl hdg kk
theorem l_M5 (C : zCx p s m args c cc nL own dC dI k) (h : zH dC dI k q X M A H0 H locs) {j : Int32} (hin : vp_in j 4) (hdg : decode cc pc = .ok (.baload, 1)) (kk : W p l e R s m args below meth c H locs cells slots Q (F0 m (pc + 1) ls (.int (M 5 j.toNatClampNeg) :: rest))) : W p l e R s m args below meth c H locs cells slots Q (F0 m pc ls (.int j :: .ref (q 43) :: rest)) :=
  z_ldz C h 43 rfl hin hdg kk
theorem s_M5 (C : zCx p s m args c cc nL own dC dI k) (h : zH dC dI k q X M A H0 H locs) {j x : Int32} (hin : vp_in j 4) (hx : x = 0 ∨ x = 1) (hdg : decode cc pc = .ok (.bastore, 1)) (kk : ∀ (H1 : Heap) (locs1 : List Loc), zH dC dI k q X (u2 M 5 j.toNatClampNeg x) A H0 H1 locs1 → W p l e R s m args below meth c H1 locs1 cells slots Q (F0 m (pc + 1) ls rest)) : W p l e R s m args below meth c H locs cells slots Q (F0 m pc ls (.int x :: .int j :: .ref (q 43) :: rest)) :=
  z_stz (f := M 5) C h 43 rfl hin (by rw [show vp_nar .boolean x = x by rcases hx with rfl | rfl <;> decide +kernel]; rfl) hdg kk
theorem la_parts (C : zCx p s m args c cc nL own dC dI k) (h : zH dC dI k q X M A H0 H locs) {j : Int32} (hin : vp_in j 7) (hdg : decode cc pc = .ok (.aaload, 1)) (kk : W p l e R s m args below meth c H locs cells slots Q (F0 m (pc + 1) ls (.ref (q (3 + j.toNatClampNeg)) :: rest))) : W p l e R s m args below meth c H locs cells slots Q (F0 m pc ls (.int j :: .ref (q 2) :: rest)) :=
  z_la C h 2 rfl hin rfl hdg kk
theorem la_tal (C : zCx p s m args c cc nL own dC dI k) (h : zH dC dI k q X M A H0 H locs) {j : Int32} (hin : vp_in j 4) (hdg : decode cc pc = .ok (.aaload, 1)) (kk : W p l e R s m args below meth c H locs cells slots Q (F0 m (pc + 1) ls (.ref (q (11 + j.toNatClampNeg)) :: rest))) : W p l e R s m args below meth c H locs cells slots Q (F0 m pc ls (.int j :: .ref (q 10) :: rest)) :=
  z_la C h 10 rfl hin rfl hdg kk
end ZF
end
section
section ZE
variable {p : Program} {l : Launch} {e : Env} {R : Room} {s : State} {m : MethodId} {args : Array Value} {below : List Frame} {meth : Method} {c : Code} {H : Heap} {locs : List Loc} {cells slots : Nat} {Q : State → Prop}
variable {cc : ByteArray} {nL pc : Nat} {ls : Array Slot} {rest : List Value} {own : String} {dC : Nat → ClassId} {dI : Nat → Nat → Nat} {k : Nat → ClassId} {q : Nat → Nat} {X X' : zXS} {M M' : zMS} {A : Nat → Prop} {H0 : Heap}
theorem z_retE {v v' : Int32} (C : zCx p s m args c cc nL own dC dI k) (h : zH dC dI k q X M (zA q) s.heap H locs) (hr : meth.sig.returnType = some .int) (hlocks : meth.locks = false) (hv : v' = v) (hX : X' = X) (hM : M' = M) (hdg : decode cc pc = .ok (.ireturn, 1)) : W p l e R s m args below meth c H locs 0 0 (MQ below (zQc dC dI k q X' M' (some (.int v'))) args s 0 0 (zA q)) (F0 m pc ls [.int v]) := by
  subst hv; subst hX; subst hM
  exact z_ret C h hr hlocks hdg
theorem z_retzE {v v' : Int32} (C : zCx p s m args c cc nL own dC dI k) (h : zH dC dI k q X M (zA q) s.heap H locs) (hr : meth.sig.returnType = some .boolean) (hlocks : meth.locks = false) (h01 : v = 0 ∨ v = 1) (hv : v' = v) (hX : X' = X) (hM : M' = M) (hdg : decode cc pc = .ok (.ireturn, 1)) : W p l e R s m args below meth c H locs 0 0 (MQ below (zQc dC dI k q X' M' (some (.int v'))) args s 0 0 (zA q)) (F0 m pc ls [.int v]) := by
  subst hv; subst hX; subst hM
  exact z_retz C h hr hlocks h01 hdg
theorem z_retvE (C : zCx p s m args c cc nL own dC dI k) (h : zH dC dI k q X M (zA q) s.heap H locs) (hr : meth.sig.returnType = none) (hlocks : meth.locks = false) (hX : X' = X) (hM : M' = M) (hdg : decode cc pc = .ok (.return_, 1)) : W p l e R s m args below meth c H locs 0 0 (MQ below (zQc dC dI k q X' M' none) args s 0 0 (zA q)) (F0 m pc ls []) := by
  subst hX; subst hM
  exact z_retv C h hr hlocks hdg
end ZE
def m_four (x : Int32) : Int32 := if x < 0 then 0 else if 3 < x then 0 else 1
def m_ord (w : Int32) : Int32 := if w ≤ 4 then 0 else if 9 ≤ w then 0 else 1
def m_digit (r : Int64) (s : Int32) : Int32 := ((r >>> ((4 * s).toInt64 &&& 63)) &&& 15).toInt32
def m_bec (w st : Int32) : Int32 := if w = 5 then m_digit 3584133028581648 st else if w = 6 then m_digit 3585301259681808 st else m_digit 3600455353446912 st
def m_send (M : zMS) (w a f t r n v : Int32) : zMS :=
  u2 (u2 (u2 (u2 (u2 (u2 (u2 (u2 (u2 M 16 (M 15 0).toNatClampNeg w) 17 (M 15 0).toNatClampNeg a) 18 (M 15 0).toNatClampNeg f) 19 (M 15 0).toNatClampNeg t) 20 (M 15 0).toNatClampNeg r) 21 (M 15 0).toNatClampNeg n) 22 (M 15 0).toNatClampNeg v) 15 0 (M 15 0 + 1)) 4 (4 * r + a).toNatClampNeg (if 5 ≤ w then M 4 (4 * r + a).toNatClampNeg + 1 else 1)
theorem hd_M_isFour : y_M_isFour.cls ≠ "java/lang/invoke/MethodHandle" ∧ y_M_isFour.cls ≠ "java/lang/invoke/VarHandle" ∧ (parseMethodDescriptor y_M_isFour.desc).map (fun d => d.parameters.length) = some 1 := by decide +kernel
set_option maxHeartbeats 4000000 in
set_option maxRecDepth 100000 in
theorem k_M_isFour (l : Launch) (dC : Nat → ClassId) (dI : Nat → Nat → Nat) (k : Nat → ClassId) (q : Nat → Nat) (X : zXS) (M : zMS) (x : Int32) : zMet l dC dI k q y_M_isFour c_M_isFour 1 (some .boolean) 0 0 [.int x] (some (.int (m_four x))) X M X M := by
  refine zMet.of (by decide) (Nat.le_of_ble_eq_true rfl) ?_
  intro p e s m args below meth c ls C hr hk hl h
  have hx := C.1
  have hb := C.2.1
  have hl : lv_has ls 1 [(0, .int x)] := hl
  refine lv_iload_n hx hb d_M_isFour_0 rfl (lv_at hl 0 rfl) ?_
  refine lv_if_lt (tgt := 13) hx hb d_M_isFour_1 (by decide) (fun hh1 => ?_) (fun hh1 => ?_)
  · skip
    refine lv_iconst (v := 0) hx hb d_M_isFour_13 (by decide) ?_
    exact z_retzE C h hr hk (by first | exact Or.inl rfl | exact Or.inr rfl) (by first | rfl | (simp only [m_four, eq_true hh1, ↓reduceIte]; done) | (simp [m_four, eq_true hh1]; done)) (by first | rfl | (simp only [m_four, eq_true hh1, ↓reduceIte]; done) | (simp [m_four, eq_true hh1]; done)) (by first | rfl | (simp only [m_four, eq_true hh1, ↓reduceIte]; done) | (simp [m_four, eq_true hh1]; done)) d_M_isFour_14
  · skip
    refine lv_iload_n hx hb d_M_isFour_4 rfl (lv_at hl 0 rfl) ?_
    refine lv_iconst (v := 3) hx hb d_M_isFour_5 (by decide) ?_
    refine lv_icmp_gt (tgt := 13) hx hb d_M_isFour_6 (by decide) (fun hh2 => ?_) (fun hh2 => ?_)
    · skip
      refine lv_iconst (v := 0) hx hb d_M_isFour_13 (by decide) ?_
      exact z_retzE C h hr hk (by first | exact Or.inl rfl | exact Or.inr rfl) (by first | rfl | (simp only [m_four, eq_false hh1, eq_true hh2, ↓reduceIte]; done) | (simp [m_four, eq_false hh1, eq_true hh2]; done)) (by first | rfl | (simp only [m_four, eq_false hh1, eq_true hh2, ↓reduceIte]; done) | (simp [m_four, eq_false hh1, eq_true hh2]; done)) (by first | rfl | (simp only [m_four, eq_false hh1, eq_true hh2, ↓reduceIte]; done) | (simp [m_four, eq_false hh1, eq_true hh2]; done)) d_M_isFour_14
    · skip
      refine lv_iconst (v := 1) hx hb d_M_isFour_9 (by decide) ?_
      refine lv_goto (tgt := 14) hx hb d_M_isFour_10 (by decide) ?_
      exact z_retzE C h hr hk (by first | exact Or.inl rfl | exact Or.inr rfl) (by first | rfl | (simp only [m_four, eq_false hh1, eq_false hh2, ↓reduceIte]; done) | (simp [m_four, eq_false hh1, eq_false hh2]; done)) (by first | rfl | (simp only [m_four, eq_false hh1, eq_false hh2, ↓reduceIte]; done) | (simp [m_four, eq_false hh1, eq_false hh2]; done)) (by first | rfl | (simp only [m_four, eq_false hh1, eq_false hh2, ↓reduceIte]; done) | (simp [m_four, eq_false hh1, eq_false hh2]; done)) d_M_isFour_14
theorem hd_M_isOrdered : y_M_isOrdered.cls ≠ "java/lang/invoke/MethodHandle" ∧ y_M_isOrdered.cls ≠ "java/lang/invoke/VarHandle" ∧ (parseMethodDescriptor y_M_isOrdered.desc).map (fun d => d.parameters.length) = some 1 := by decide +kernel
set_option maxHeartbeats 4000000 in
set_option maxRecDepth 100000 in
theorem k_M_isOrdered (l : Launch) (dC : Nat → ClassId) (dI : Nat → Nat → Nat) (k : Nat → ClassId) (q : Nat → Nat) (X : zXS) (M : zMS) (x : Int32) : zMet l dC dI k q y_M_isOrdered c_M_isOrdered 1 (some .boolean) 0 0 [.int x] (some (.int (m_ord x))) X M X M := by
  refine zMet.of (by decide) (Nat.le_of_ble_eq_true rfl) ?_
  intro p e s m args below meth c ls C hr hk hl h
  have hx := C.1
  have hb := C.2.1
  have hl : lv_has ls 1 [(0, .int x)] := hl
  refine lv_iload_n hx hb d_M_isOrdered_0 rfl (lv_at hl 0 rfl) ?_
  refine lv_iconst (v := 4) hx hb d_M_isOrdered_1 (by decide) ?_
  refine lv_icmp_le (tgt := 15) hx hb d_M_isOrdered_2 (by decide) (fun hh1 => ?_) (fun hh1 => ?_)
  · skip
    refine lv_iconst (v := 0) hx hb d_M_isOrdered_15 (by decide) ?_
    exact z_retzE C h hr hk (by first | exact Or.inl rfl | exact Or.inr rfl) (by first | rfl | (simp only [m_ord, eq_true hh1, ↓reduceIte]; done) | (simp [m_ord, eq_true hh1]; done)) (by first | rfl | (simp only [m_ord, eq_true hh1, ↓reduceIte]; done) | (simp [m_ord, eq_true hh1]; done)) (by first | rfl | (simp only [m_ord, eq_true hh1, ↓reduceIte]; done) | (simp [m_ord, eq_true hh1]; done)) d_M_isOrdered_16
  · skip
    refine lv_iload_n hx hb d_M_isOrdered_5 rfl (lv_at hl 0 rfl) ?_
    refine lv_bipush (v := 9) hx hb d_M_isOrdered_6 (by decide) ?_
    refine lv_icmp_ge (tgt := 15) hx hb d_M_isOrdered_8 (by decide) (fun hh2 => ?_) (fun hh2 => ?_)
    · skip
      refine lv_iconst (v := 0) hx hb d_M_isOrdered_15 (by decide) ?_
      exact z_retzE C h hr hk (by first | exact Or.inl rfl | exact Or.inr rfl) (by first | rfl | (simp only [m_ord, eq_false hh1, eq_true hh2, ↓reduceIte]; done) | (simp [m_ord, eq_false hh1, eq_true hh2]; done)) (by first | rfl | (simp only [m_ord, eq_false hh1, eq_true hh2, ↓reduceIte]; done) | (simp [m_ord, eq_false hh1, eq_true hh2]; done)) (by first | rfl | (simp only [m_ord, eq_false hh1, eq_true hh2, ↓reduceIte]; done) | (simp [m_ord, eq_false hh1, eq_true hh2]; done)) d_M_isOrdered_16
    · skip
      refine lv_iconst (v := 1) hx hb d_M_isOrdered_11 (by decide) ?_
      refine lv_goto (tgt := 16) hx hb d_M_isOrdered_12 (by decide) ?_
      exact z_retzE C h hr hk (by first | exact Or.inl rfl | exact Or.inr rfl) (by first | rfl | (simp only [m_ord, eq_false hh1, eq_false hh2, ↓reduceIte]; done) | (simp [m_ord, eq_false hh1, eq_false hh2]; done)) (by first | rfl | (simp only [m_ord, eq_false hh1, eq_false hh2, ↓reduceIte]; done) | (simp [m_ord, eq_false hh1, eq_false hh2]; done)) (by first | rfl | (simp only [m_ord, eq_false hh1, eq_false hh2, ↓reduceIte]; done) | (simp [m_ord, eq_false hh1, eq_false hh2]; done)) d_M_isOrdered_16
theorem hd_M_digit : y_M_digit.cls ≠ "java/lang/invoke/MethodHandle" ∧ y_M_digit.cls ≠ "java/lang/invoke/VarHandle" ∧ (parseMethodDescriptor y_M_digit.desc).map (fun d => d.parameters.length) = some 2 := by decide +kernel
set_option maxHeartbeats 4000000 in
set_option maxRecDepth 100000 in
theorem k_M_digit (l : Launch) (dC : Nat → ClassId) (dI : Nat → Nat → Nat) (k : Nat → ClassId) (q : Nat → Nat) (X : zXS) (M : zMS) (r : Int64) (x : Int32) : zMet l dC dI k q y_M_digit c_M_digit 3 (some .int) 0 0 [.long r, .int x] (some (.int (m_digit r x))) X M X M := by
  refine zMet.of (by decide) (Nat.le_of_ble_eq_true rfl) ?_
  intro p e s m args below meth c ls C hr hk hl h
  have hx := C.1
  have hb := C.2.1
  have hl : lv_has ls 3 [(0, .long r), (2, .int x)] := hl
  refine lv_lload_n hx hb d_M_digit_0 rfl (lv_at hl 0 rfl) ?_
  refine lv_iconst (v := 4) hx hb d_M_digit_1 (by decide) ?_
  refine lv_iload_n hx hb d_M_digit_2 rfl (lv_at hl 1 rfl) ?_
  refine lv_imul hx hb d_M_digit_3 ?_
  refine lv_lshr hx hb d_M_digit_4 rfl ?_
  refine lv_ldc2 (v := 15) hx hb C.2.2.2.1 (C.2.2.2.2.1 _ kl_M_89) d_M_digit_5 ?_
  refine lv_land hx hb d_M_digit_8 ?_
  refine lv_l2i hx hb d_M_digit_9 rfl ?_
  exact z_retE C h hr hk (by first | rfl | (simp only [m_digit, ↓reduceIte]; done) | (simp [m_digit]; done)) (by first | rfl | (simp only [m_digit, ↓reduceIte]; done) | (simp [m_digit]; done)) (by first | rfl | (simp only [m_digit, ↓reduceIte]; done) | (simp [m_digit]; done)) d_M_digit_10
theorem hd_M_becomes : y_M_becomes.cls ≠ "java/lang/invoke/MethodHandle" ∧ y_M_becomes.cls ≠ "java/lang/invoke/VarHandle" ∧ (parseMethodDescriptor y_M_becomes.desc).map (fun d => d.parameters.length) = some 2 := by decide +kernel
set_option maxHeartbeats 4000000 in
set_option maxRecDepth 100000 in
theorem k_M_becomes (l : Launch) (dC : Nat → ClassId) (dI : Nat → Nat → Nat) (k : Nat → ClassId) (q : Nat → Nat) (X : zXS) (M : zMS) (w x : Int32) : zMet l dC dI k q y_M_becomes c_M_becomes 2 (some .int) 1 22 [.int w, .int x] (some (.int (m_bec w x))) X M X M := by
  refine zMet.of (by decide) (Nat.le_of_ble_eq_true rfl) ?_
  intro p e s m args below meth c ls C hr hk hl h
  have hx := C.1
  have hb := C.2.1
  have hl : lv_has ls 2 [(0, .int w), (1, .int x)] := hl
  refine lv_iload_n hx hb d_M_becomes_0 rfl (lv_at hl 0 rfl) ?_
  refine lv_iconst (v := 5) hx hb d_M_becomes_1 (by decide) ?_
  refine lv_icmp_ne (tgt := 13) hx hb d_M_becomes_2 (by decide) (fun hh1 => ?_) (fun hh1 => ?_)
  · skip
    refine lv_iload_n hx hb d_M_becomes_13 rfl (lv_at hl 0 rfl) ?_
    refine lv_bipush (v := 6) hx hb d_M_becomes_14 (by decide) ?_
    refine lv_icmp_ne (tgt := 27) hx hb d_M_becomes_16 (by decide) (fun hh2 => ?_) (fun hh2 => ?_)
    · skip
      refine lv_ldc2 (v := 3600455353446912) hx hb C.2.2.2.1 (C.2.2.2.2.1 _ kl_M_99) d_M_becomes_27 ?_
      refine lv_iload_n hx hb d_M_becomes_30 rfl (lv_at hl 1 rfl) ?_
      refine z_callS C h (k_M_digit l dC dI k q X M 3600455353446912 x) co_M_digit ml_M_93 sc_M_digit in_M hd_M_digit ⟨by decide, by decide⟩ ⟨Nat.zero_le _, Nat.zero_le _⟩ hl.1 (Nat.le_of_ble_eq_true rfl) d_M_becomes_31 rfl (fun H locs h => ?_)
      refine W.eq (g2 := F0 m 34 ls [.int (m_digit 3600455353446912 x)]) rfl ?_
      have h : zH dC dI k q X M (zA q) s.heap H locs := h
      exact z_retE C h hr hk (by first | rfl | (simp only [m_bec, eq_false hh1, eq_false hh2, ↓reduceIte]; done) | (simp [m_bec, eq_false hh1, eq_false hh2]; done)) (by first | rfl | (simp only [m_bec, eq_false hh1, eq_false hh2, ↓reduceIte]; done) | (simp [m_bec, eq_false hh1, eq_false hh2]; done)) (by first | rfl | (simp only [m_bec, eq_false hh1, eq_false hh2, ↓reduceIte]; done) | (simp [m_bec, eq_false hh1, eq_false hh2]; done)) d_M_becomes_34
    · skip
      refine lv_ldc2 (v := 3585301259681808) hx hb C.2.2.2.1 (C.2.2.2.2.1 _ kl_M_97) d_M_becomes_19 ?_
      refine lv_iload_n hx hb d_M_becomes_22 rfl (lv_at hl 1 rfl) ?_
      refine z_callS C h (k_M_digit l dC dI k q X M 3585301259681808 x) co_M_digit ml_M_93 sc_M_digit in_M hd_M_digit ⟨by decide, by decide⟩ ⟨Nat.zero_le _, Nat.zero_le _⟩ hl.1 (Nat.le_of_ble_eq_true rfl) d_M_becomes_23 rfl (fun H locs h => ?_)
      refine W.eq (g2 := F0 m 26 ls [.int (m_digit 3585301259681808 x)]) rfl ?_
      have h : zH dC dI k q X M (zA q) s.heap H locs := h
      exact z_retE C h hr hk (by first | rfl | (simp only [m_bec, eq_false hh1, eq_true hh2, ↓reduceIte]; done) | (simp [m_bec, eq_false hh1, eq_true hh2]; done)) (by first | rfl | (simp only [m_bec, eq_false hh1, eq_true hh2, ↓reduceIte]; done) | (simp [m_bec, eq_false hh1, eq_true hh2]; done)) (by first | rfl | (simp only [m_bec, eq_false hh1, eq_true hh2, ↓reduceIte]; done) | (simp [m_bec, eq_false hh1, eq_true hh2]; done)) d_M_becomes_26
  · skip
    refine lv_ldc2 (v := 3584133028581648) hx hb C.2.2.2.1 (C.2.2.2.2.1 _ kl_M_91) d_M_becomes_5 ?_
    refine lv_iload_n hx hb d_M_becomes_8 rfl (lv_at hl 1 rfl) ?_
    refine z_callS C h (k_M_digit l dC dI k q X M 3584133028581648 x) co_M_digit ml_M_93 sc_M_digit in_M hd_M_digit ⟨by decide, by decide⟩ ⟨Nat.zero_le _, Nat.zero_le _⟩ hl.1 (Nat.le_of_ble_eq_true rfl) d_M_becomes_9 rfl (fun H locs h => ?_)
    refine W.eq (g2 := F0 m 12 ls [.int (m_digit 3584133028581648 x)]) rfl ?_
    have h : zH dC dI k q X M (zA q) s.heap H locs := h
    exact z_retE C h hr hk (by first | rfl | (simp only [m_bec, eq_true hh1, ↓reduceIte]; done) | (simp [m_bec, eq_true hh1]; done)) (by first | rfl | (simp only [m_bec, eq_true hh1, ↓reduceIte]; done) | (simp [m_bec, eq_true hh1]; done)) (by first | rfl | (simp only [m_bec, eq_true hh1, ↓reduceIte]; done) | (simp [m_bec, eq_true hh1]; done)) d_M_becomes_12
theorem hd_M_sendWith : y_M_sendWith.cls ≠ "java/lang/invoke/MethodHandle" ∧ y_M_sendWith.cls ≠ "java/lang/invoke/VarHandle" ∧ (parseMethodDescriptor y_M_sendWith.desc).map (fun d => d.parameters.length) = some 7 := by decide +kernel
set_option maxHeartbeats 4000000 in
set_option maxRecDepth 100000 in
theorem k_M_sendWith (l : Launch) (dC : Nat → ClassId) (dI : Nat → Nat → Nat) (k : Nat → ClassId) (q : Nat → Nat) (X : zXS) (M : zMS) (w a f t r n v : Int32) (h0 : vp_in (M 15 0) 200) (h1 : vp_in (4 * r + a) 16) : zMet l dC dI k q y_M_sendWith c_M_sendWith 8 none 0 0 [.ref (q 37), .int w, .int a, .int f, .int t, .int r, .int n, .int v] none X M X (m_send M w a f t r n v) := by
  refine zMet.of (by decide) (Nat.le_of_ble_eq_true rfl) ?_
  intro p e s m args below meth c ls C hr hk hl h
  have hx := C.1
  have hb := C.2.1
  have hl : lv_has ls 8 [(0, .ref (q 37)), (1, .int w), (2, .int a), (3, .int f), (4, .int t), (5, .int r), (6, .int n), (7, .int v)] := hl
  refine lv_aload_n hx hb d_M_sendWith_0 rfl (lv_at hl 0 rfl) ?_
  refine g_M_56 C h d_M_sendWith_1 ?_
  refine lv_aload_n hx hb d_M_sendWith_4 rfl (lv_at hl 0 rfl) ?_
  refine g_M_81 C h d_M_sendWith_5 ?_
  refine lv_iload_n hx hb d_M_sendWith_8 rfl (lv_at hl 1 rfl) ?_
  refine s_M16 C h h0 d_M_sendWith_9 (fun H locs h => ?_)
  refine lv_aload_n hx hb d_M_sendWith_10 rfl (lv_at hl 0 rfl) ?_
  refine g_M_59 C h d_M_sendWith_11 ?_
  refine lv_aload_n hx hb d_M_sendWith_14 rfl (lv_at hl 0 rfl) ?_
  refine g_M_81 C h d_M_sendWith_15 ?_
  refine z_top (y := M 15 0) rfl ?_
  refine lv_iload_n hx hb d_M_sendWith_18 rfl (lv_at hl 2 rfl) ?_
  refine s_M17 C h h0 d_M_sendWith_19 (fun H locs h => ?_)
  refine lv_aload_n hx hb d_M_sendWith_20 rfl (lv_at hl 0 rfl) ?_
  refine g_M_62 C h d_M_sendWith_21 ?_
  refine lv_aload_n hx hb d_M_sendWith_24 rfl (lv_at hl 0 rfl) ?_
  refine g_M_81 C h d_M_sendWith_25 ?_
  refine z_top (y := M 15 0) rfl ?_
  refine lv_iload_n hx hb d_M_sendWith_28 rfl (lv_at hl 3 rfl) ?_
  refine s_M18 C h h0 d_M_sendWith_29 (fun H locs h => ?_)
  refine lv_aload_n hx hb d_M_sendWith_30 rfl (lv_at hl 0 rfl) ?_
  refine g_M_65 C h d_M_sendWith_31 ?_
  refine lv_aload_n hx hb d_M_sendWith_34 rfl (lv_at hl 0 rfl) ?_
  refine g_M_81 C h d_M_sendWith_35 ?_
  refine z_top (y := M 15 0) rfl ?_
  refine lv_iload hx hb d_M_sendWith_38 (lv_at hl 4 rfl) ?_
  refine s_M19 C h h0 d_M_sendWith_40 (fun H locs h => ?_)
  refine lv_aload_n hx hb d_M_sendWith_41 rfl (lv_at hl 0 rfl) ?_
  refine g_M_68 C h d_M_sendWith_42 ?_
  refine lv_aload_n hx hb d_M_sendWith_45 rfl (lv_at hl 0 rfl) ?_
  refine g_M_81 C h d_M_sendWith_46 ?_
  refine z_top (y := M 15 0) rfl ?_
  refine lv_iload hx hb d_M_sendWith_49 (lv_at hl 5 rfl) ?_
  refine s_M20 C h h0 d_M_sendWith_51 (fun H locs h => ?_)
  refine lv_aload_n hx hb d_M_sendWith_52 rfl (lv_at hl 0 rfl) ?_
  refine g_M_71 C h d_M_sendWith_53 ?_
  refine lv_aload_n hx hb d_M_sendWith_56 rfl (lv_at hl 0 rfl) ?_
  refine g_M_81 C h d_M_sendWith_57 ?_
  refine z_top (y := M 15 0) rfl ?_
  refine lv_iload hx hb d_M_sendWith_60 (lv_at hl 6 rfl) ?_
  refine s_M21 C h h0 d_M_sendWith_62 (fun H locs h => ?_)
  refine lv_aload_n hx hb d_M_sendWith_63 rfl (lv_at hl 0 rfl) ?_
  refine g_M_74 C h d_M_sendWith_64 ?_
  refine lv_aload_n hx hb d_M_sendWith_67 rfl (lv_at hl 0 rfl) ?_
  refine g_M_81 C h d_M_sendWith_68 ?_
  refine z_top (y := M 15 0) rfl ?_
  refine lv_iload hx hb d_M_sendWith_71 (lv_at hl 7 rfl) ?_
  refine s_M22 C h h0 d_M_sendWith_73 (fun H locs h => ?_)
  refine lv_aload_n hx hb d_M_sendWith_74 rfl (lv_at hl 0 rfl) ?_
  refine lv_dup hx hb d_M_sendWith_75 rfl ?_
  refine g_M_81 C h d_M_sendWith_76 ?_
  refine z_top (y := M 15 0) rfl ?_
  refine lv_iconst (v := 1) hx hb d_M_sendWith_79 (by decide) ?_
  refine lv_iadd hx hb d_M_sendWith_80 ?_
  refine p_M_81 C h d_M_sendWith_81 (fun H locs h => ?_)
  refine lv_aload_n hx hb d_M_sendWith_84 rfl (lv_at hl 0 rfl) ?_
  refine g_M_22 C h d_M_sendWith_85 ?_
  refine lv_iconst (v := 4) hx hb d_M_sendWith_88 (by decide) ?_
  refine lv_iload hx hb d_M_sendWith_89 (lv_at hl 5 rfl) ?_
  refine lv_imul hx hb d_M_sendWith_91 ?_
  refine lv_iload_n hx hb d_M_sendWith_92 rfl (lv_at hl 2 rfl) ?_
  refine lv_iadd hx hb d_M_sendWith_93 ?_
  refine lv_iload_n hx hb d_M_sendWith_94 rfl (lv_at hl 1 rfl) ?_
  refine lv_iconst (v := 5) hx hb d_M_sendWith_95 (by decide) ?_
  refine lv_icmp_ge (tgt := 103) hx hb d_M_sendWith_96 (by decide) (fun hh1 => ?_) (fun hh1 => ?_)
  · skip
    refine lv_aload_n hx hb d_M_sendWith_103 rfl (lv_at hl 0 rfl) ?_
    refine g_M_22 C h d_M_sendWith_104 ?_
    refine lv_iconst (v := 4) hx hb d_M_sendWith_107 (by decide) ?_
    refine lv_iload hx hb d_M_sendWith_108 (lv_at hl 5 rfl) ?_
    refine lv_imul hx hb d_M_sendWith_110 ?_
    refine lv_iload_n hx hb d_M_sendWith_111 rfl (lv_at hl 2 rfl) ?_
    refine lv_iadd hx hb d_M_sendWith_112 ?_
    refine l_M4 C h h1 d_M_sendWith_113 ?_
    refine z_top (y := M 4 (Int32.toNatClampNeg ((4 * r) + a))) rfl ?_
    refine lv_iconst (v := 1) hx hb d_M_sendWith_114 (by decide) ?_
    refine lv_iadd hx hb d_M_sendWith_115 ?_
    refine s_M4 C h h1 d_M_sendWith_116 (fun H locs h => ?_)
    exact z_retvE C h hr hk (by first | rfl | (simp only [m_send, eq_true hh1, ↓reduceIte]; done) | (simp [m_send, eq_true hh1]; done)) (by first | rfl | (simp only [m_send, eq_true hh1, ↓reduceIte]; done) | (simp [m_send, eq_true hh1]; done)) d_M_sendWith_117
  · skip
    refine lv_iconst (v := 1) hx hb d_M_sendWith_99 (by decide) ?_
    refine lv_goto (tgt := 116) hx hb d_M_sendWith_100 (by decide) ?_
    refine s_M4 C h h1 d_M_sendWith_116 (fun H locs h => ?_)
    exact z_retvE C h hr hk (by first | rfl | (simp only [m_send, eq_false hh1, ↓reduceIte]; done) | (simp [m_send, eq_false hh1]; done)) (by first | rfl | (simp only [m_send, eq_false hh1, ↓reduceIte]; done) | (simp [m_send, eq_false hh1]; done)) d_M_sendWith_117
theorem hd_M_send : y_M_send.cls ≠ "java/lang/invoke/MethodHandle" ∧ y_M_send.cls ≠ "java/lang/invoke/VarHandle" ∧ (parseMethodDescriptor y_M_send.desc).map (fun d => d.parameters.length) = some 6 := by decide +kernel
set_option maxHeartbeats 4000000 in
set_option maxRecDepth 100000 in
theorem k_M_send (l : Launch) (dC : Nat → ClassId) (dI : Nat → Nat → Nat) (k : Nat → ClassId) (q : Nat → Nat) (X : zXS) (M : zMS) (w a f t r n : Int32) (h0 : vp_in (M 15 0) 200) (h1 : vp_in (4 * r + a) 16) : zMet l dC dI k q y_M_send c_M_send 7 none 1 27 [.ref (q 37), .int w, .int a, .int f, .int t, .int r, .int n] none X M X (m_send M w a f t r n 0) := by
  refine zMet.of (by decide) (Nat.le_of_ble_eq_true rfl) ?_
  intro p e s m args below meth c ls C hr hk hl h
  have hx := C.1
  have hb := C.2.1
  have hl : lv_has ls 7 [(0, .ref (q 37)), (1, .int w), (2, .int a), (3, .int f), (4, .int t), (5, .int r), (6, .int n)] := hl
  refine lv_aload_n hx hb d_M_send_0 rfl (lv_at hl 0 rfl) ?_
  refine lv_iload_n hx hb d_M_send_1 rfl (lv_at hl 1 rfl) ?_
  refine lv_iload_n hx hb d_M_send_2 rfl (lv_at hl 2 rfl) ?_
  refine lv_iload_n hx hb d_M_send_3 rfl (lv_at hl 3 rfl) ?_
  refine lv_iload hx hb d_M_send_4 (lv_at hl 4 rfl) ?_
  refine lv_iload hx hb d_M_send_6 (lv_at hl 5 rfl) ?_
  refine lv_iload hx hb d_M_send_8 (lv_at hl 6 rfl) ?_
  refine lv_iconst (v := 0) hx hb d_M_send_10 (by decide) ?_
  refine z_callV (i := 37) C h (k_M_sendWith l dC dI k q X M w a f t r n 0 h0 h1) co_M_sendWith ml_M_77 im_M_sendWith se_M_sendWith in_M rfl rfl hd_M_sendWith ⟨by decide, by decide⟩ ⟨Nat.zero_le _, Nat.zero_le _⟩ hl.1 (Nat.le_of_ble_eq_true rfl) d_M_send_11 rfl (fun H locs h => ?_)
  refine W.eq (g2 := F0 m 14 ls []) rfl ?_
  have h : zH dC dI k q X (m_send M w a f t r n 0) (zA q) s.heap H locs := h
  exact z_retvE C h hr hk (by first | rfl | (simp only [↓reduceIte]; done) | (simp []; done)) (by first | rfl | (simp only [↓reduceIte]; done) | (simp []; done)) d_M_send_14
end
section
def m_stp (M : zMS) (i : Nat) : zMS := (u2 (u2 (u2 (u2 (u2 (u2 (u2 M 16 (nI i).toNatClampNeg (M 16 (nI i + 1).toNatClampNeg)) 17 (nI i).toNatClampNeg (M 17 (nI i + 1).toNatClampNeg)) 18 (nI i).toNatClampNeg (M 18 (nI i + 1).toNatClampNeg)) 19 (nI i).toNatClampNeg (M 19 (nI i + 1).toNatClampNeg)) 20 (nI i).toNatClampNeg (M 20 (nI i + 1).toNatClampNeg)) 21 (nI i).toNatClampNeg (M 21 (nI i + 1).toNatClampNeg)) 22 (nI i).toNatClampNeg (M 22 (nI i + 1).toNatClampNeg))
def m_shift : Nat → Nat → zMS → zMS
  | 0, _, M => M
  | c + 1, i, M => m_shift c (i + 1) (m_stp M i)
def m_strike (M : zMS) (kk n : Nat) : zMS := m_shift (n - kk) kk (u2 M 15 0 (M 15 0 - 1))
theorem hd_M_strike : y_M_strike.cls ≠ "java/lang/invoke/MethodHandle" ∧ y_M_strike.cls ≠ "java/lang/invoke/VarHandle" ∧ (parseMethodDescriptor y_M_strike.desc).map (fun d => d.parameters.length) = some 1 := by decide +kernel
set_option maxHeartbeats 4000000 in
set_option maxRecDepth 100000 in
theorem k_M_strike (l : Launch) (dC : Nat → ClassId) (dI : Nat → Nat → Nat) (k : Nat → ClassId) (q : Nat → Nat) (X : zXS) (M : zMS) (kk n : Nat) (h1 : kk ≤ n) (h2 : n < 200) (h0 : M 15 0 = nI (n + 1)) : zMet l dC dI k q y_M_strike c_M_strike 3 none 0 0 [.ref (q 37), .int (nI kk)] none X M X (m_strike M kk n) := by
  refine zMet.of (by decide) (Nat.le_of_ble_eq_true rfl) ?_
  intro p e s m args below meth c ls C hr hk hl h
  have hx := C.1
  have hb := C.2.1
  have hl : lv_has ls 3 [(0, .ref (q 37)), (1, .int (nI kk))] := hl
  have loop : ∀ (c0 i : Nat) (M1 : zMS) (ls : Array Slot) (H : Heap) (locs : List Loc), i + c0 = n → M1 15 0 = nI n → m_strike M kk n = m_shift c0 i M1 → lv_has ls 3 [(2, .int (nI i)), (0, .ref (q 37)), (1, .int (nI kk))] → zH dC dI k q X M1 (zA q) s.heap H locs → W p l e { frames := 0, cells := 0, slots := 0, locals := 0 } s m args below meth c H locs 0 0 (MQ below (zQc dC dI k q X (m_strike M kk n) none) args s 0 0 (zA q)) (F0 m 12 ls []) := by
    intro c0
    induction c0 with
    | zero =>
      intro i M1 ls H locs hi hR hM hl h
      refine lv_iload_n hx hb d_M_strike_12 rfl (lv_at hl 0 rfl) ?_
      refine lv_aload_n hx hb d_M_strike_13 rfl (lv_at hl 1 rfl) ?_
      refine g_M_81 C h d_M_strike_14 ?_
      refine lv_icmp_ge (tgt := 124) hx hb d_M_strike_17 (by decide) (fun hh1 => ?_) (fun hh1 => absurd (by rw [hR]; exact nI_le (by omega) (by omega)) hh1)
      exact z_retvE C h hr hk (by first | rfl | (simp only [hM, m_shift, hh1, ↓reduceIte]; done) | (simp [hM, m_shift, hh1]; done)) (by first | rfl | (simp only [hM, m_shift, hh1, ↓reduceIte]; done) | (simp [hM, m_shift, hh1]; done)) d_M_strike_124
    | succ c0 ih =>
      intro i M1 ls H locs hi hR hM hl h
      have hi0 : vp_in (nI i) 200 := vp_in_nI (by omega) (by omega)
      have hi1 : vp_in (nI i + 1) 200 := by rw [nI_1]; exact vp_in_nI (by omega) (by omega)
      refine lv_iload_n hx hb d_M_strike_12 rfl (lv_at hl 0 rfl) ?_
      refine lv_aload_n hx hb d_M_strike_13 rfl (lv_at hl 1 rfl) ?_
      refine g_M_81 C h d_M_strike_14 ?_
      refine lv_icmp_ge (tgt := 124) hx hb d_M_strike_17 (by decide) (fun hh2 => absurd hh2 (by rw [hR]; exact nI_ge (by omega) (by omega))) (fun hh2 => ?_)
      refine lv_aload_n hx hb d_M_strike_20 rfl (lv_at hl 1 rfl) ?_
      refine g_M_56 C h d_M_strike_21 ?_
      refine lv_iload_n hx hb d_M_strike_24 rfl (lv_at hl 0 rfl) ?_
      refine lv_aload_n hx hb d_M_strike_25 rfl (lv_at hl 1 rfl) ?_
      refine g_M_56 C h d_M_strike_26 ?_
      refine lv_iload_n hx hb d_M_strike_29 rfl (lv_at hl 0 rfl) ?_
      refine lv_iconst (v := 1) hx hb d_M_strike_30 (by decide) ?_
      refine lv_iadd hx hb d_M_strike_31 ?_
      refine l_M16 C h hi1 d_M_strike_32 ?_
      refine s_M16 C h hi0 d_M_strike_33 (fun H locs h => ?_)
      refine lv_aload_n hx hb d_M_strike_34 rfl (lv_at hl 1 rfl) ?_
      refine g_M_59 C h d_M_strike_35 ?_
      refine lv_iload_n hx hb d_M_strike_38 rfl (lv_at hl 0 rfl) ?_
      refine lv_aload_n hx hb d_M_strike_39 rfl (lv_at hl 1 rfl) ?_
      refine g_M_59 C h d_M_strike_40 ?_
      refine lv_iload_n hx hb d_M_strike_43 rfl (lv_at hl 0 rfl) ?_
      refine lv_iconst (v := 1) hx hb d_M_strike_44 (by decide) ?_
      refine lv_iadd hx hb d_M_strike_45 ?_
      refine l_M17 C h hi1 d_M_strike_46 ?_
      refine z_top (y := M1 17 (Int32.toNatClampNeg ((nI i) + 1))) rfl ?_
      refine s_M17 C h hi0 d_M_strike_47 (fun H locs h => ?_)
      refine lv_aload_n hx hb d_M_strike_48 rfl (lv_at hl 1 rfl) ?_
      refine g_M_62 C h d_M_strike_49 ?_
      refine lv_iload_n hx hb d_M_strike_52 rfl (lv_at hl 0 rfl) ?_
      refine lv_aload_n hx hb d_M_strike_53 rfl (lv_at hl 1 rfl) ?_
      refine g_M_62 C h d_M_strike_54 ?_
      refine lv_iload_n hx hb d_M_strike_57 rfl (lv_at hl 0 rfl) ?_
      refine lv_iconst (v := 1) hx hb d_M_strike_58 (by decide) ?_
      refine lv_iadd hx hb d_M_strike_59 ?_
      refine l_M18 C h hi1 d_M_strike_60 ?_
      refine z_top (y := M1 18 (Int32.toNatClampNeg ((nI i) + 1))) rfl ?_
      refine s_M18 C h hi0 d_M_strike_61 (fun H locs h => ?_)
      refine lv_aload_n hx hb d_M_strike_62 rfl (lv_at hl 1 rfl) ?_
      refine g_M_65 C h d_M_strike_63 ?_
      refine lv_iload_n hx hb d_M_strike_66 rfl (lv_at hl 0 rfl) ?_
      refine lv_aload_n hx hb d_M_strike_67 rfl (lv_at hl 1 rfl) ?_
      refine g_M_65 C h d_M_strike_68 ?_
      refine lv_iload_n hx hb d_M_strike_71 rfl (lv_at hl 0 rfl) ?_
      refine lv_iconst (v := 1) hx hb d_M_strike_72 (by decide) ?_
      refine lv_iadd hx hb d_M_strike_73 ?_
      refine l_M19 C h hi1 d_M_strike_74 ?_
      refine z_top (y := M1 19 (Int32.toNatClampNeg ((nI i) + 1))) rfl ?_
      refine s_M19 C h hi0 d_M_strike_75 (fun H locs h => ?_)
      refine lv_aload_n hx hb d_M_strike_76 rfl (lv_at hl 1 rfl) ?_
      refine g_M_68 C h d_M_strike_77 ?_
      refine lv_iload_n hx hb d_M_strike_80 rfl (lv_at hl 0 rfl) ?_
      refine lv_aload_n hx hb d_M_strike_81 rfl (lv_at hl 1 rfl) ?_
      refine g_M_68 C h d_M_strike_82 ?_
      refine lv_iload_n hx hb d_M_strike_85 rfl (lv_at hl 0 rfl) ?_
      refine lv_iconst (v := 1) hx hb d_M_strike_86 (by decide) ?_
      refine lv_iadd hx hb d_M_strike_87 ?_
      refine l_M20 C h hi1 d_M_strike_88 ?_
      refine z_top (y := M1 20 (Int32.toNatClampNeg ((nI i) + 1))) rfl ?_
      refine s_M20 C h hi0 d_M_strike_89 (fun H locs h => ?_)
      refine lv_aload_n hx hb d_M_strike_90 rfl (lv_at hl 1 rfl) ?_
      refine g_M_71 C h d_M_strike_91 ?_
      refine lv_iload_n hx hb d_M_strike_94 rfl (lv_at hl 0 rfl) ?_
      refine lv_aload_n hx hb d_M_strike_95 rfl (lv_at hl 1 rfl) ?_
      refine g_M_71 C h d_M_strike_96 ?_
      refine lv_iload_n hx hb d_M_strike_99 rfl (lv_at hl 0 rfl) ?_
      refine lv_iconst (v := 1) hx hb d_M_strike_100 (by decide) ?_
      refine lv_iadd hx hb d_M_strike_101 ?_
      refine l_M21 C h hi1 d_M_strike_102 ?_
      refine z_top (y := M1 21 (Int32.toNatClampNeg ((nI i) + 1))) rfl ?_
      refine s_M21 C h hi0 d_M_strike_103 (fun H locs h => ?_)
      refine lv_aload_n hx hb d_M_strike_104 rfl (lv_at hl 1 rfl) ?_
      refine g_M_74 C h d_M_strike_105 ?_
      refine lv_iload_n hx hb d_M_strike_108 rfl (lv_at hl 0 rfl) ?_
      refine lv_aload_n hx hb d_M_strike_109 rfl (lv_at hl 1 rfl) ?_
      refine g_M_74 C h d_M_strike_110 ?_
      refine lv_iload_n hx hb d_M_strike_113 rfl (lv_at hl 0 rfl) ?_
      refine lv_iconst (v := 1) hx hb d_M_strike_114 (by decide) ?_
      refine lv_iadd hx hb d_M_strike_115 ?_
      refine l_M22 C h hi1 d_M_strike_116 ?_
      refine z_top (y := M1 22 (Int32.toNatClampNeg ((nI i) + 1))) rfl ?_
      refine s_M22 C h hi0 d_M_strike_117 (fun H locs h => ?_)
      refine lv_iinc (k := 0) (v := ((nI i) + 1)) hx hb d_M_strike_118 hl rfl rfl (by decide) rfl (fun ls hl => ?_)
      have hl : lv_has ls 3 [(2, .int ((nI i) + 1)), (0, .ref (q 37)), (1, .int (nI kk))] := hl
      refine lv_goto (tgt := 12) hx hb d_M_strike_121 (by decide) ?_
      exact ih (i + 1) (m_stp M1 i) _ _ _ (by omega) hR hM (by rw [← nI_1]; exact hl) h
  refine lv_aload_n hx hb d_M_strike_0 rfl (lv_at hl 0 rfl) ?_
  refine lv_dup hx hb d_M_strike_1 rfl ?_
  refine g_M_81 C h d_M_strike_2 ?_
  refine lv_iconst (v := 1) hx hb d_M_strike_5 (by decide) ?_
  refine lv_isub hx hb d_M_strike_6 ?_
  refine p_M_81 C h d_M_strike_7 (fun H locs h => ?_)
  refine lv_iload_n hx hb d_M_strike_10 rfl (lv_at hl 1 rfl) ?_
  refine lv_istore_n hx hb d_M_strike_11 rfl hl (by decide) rfl (fun ls hl => ?_)
  have hl : lv_has ls 3 [(2, .int (nI kk)), (0, .ref (q 37)), (1, .int (nI kk))] := hl
  exact loop (n - kk) kk (u2 M 15 0 (M 15 0 - 1)) _ _ _ (by omega) (by show M 15 0 - 1 = nI n; rw [h0]; exact nI_pred n) rfl hl h
def m_kb1 (M : zMS) (kk i : Nat) (b : Int32) : Int32 := if b = 0 then (if m_ord (M 16 (nI i).toNatClampNeg) = 0 then 0 else if M 17 (nI i).toNatClampNeg = M 17 (nI kk).toNatClampNeg then (if M 19 (nI i).toNatClampNeg = M 19 (nI kk).toNatClampNeg then 1 else 0) else 0) else 1
def m_kbl (M : zMS) (kk : Nat) : Nat → Nat → Int32 → Int32
  | 0, _, b => b
  | c + 1, i, b => m_kbl M kk c (i + 1) (m_kb1 M kk i b)
def m_kbr (M : zMS) (kk : Nat) (b : Int32) : Int32 := if b = 0 then 0 else if m_ord (M 16 (nI kk).toNatClampNeg) = 0 then 0 else 1
def m_kept (M : zMS) (kk : Nat) : Int32 := m_kbr M kk (m_kbl M kk kk 0 0)
theorem hd_M_keptBack : y_M_keptBack.cls ≠ "java/lang/invoke/MethodHandle" ∧ y_M_keptBack.cls ≠ "java/lang/invoke/VarHandle" ∧ (parseMethodDescriptor y_M_keptBack.desc).map (fun d => d.parameters.length) = some 1 := by decide +kernel
set_option maxHeartbeats 4000000 in
set_option maxRecDepth 100000 in
theorem k_M_keptBack (l : Launch) (dC : Nat → ClassId) (dI : Nat → Nat → Nat) (k : Nat → ClassId) (q : Nat → Nat) (X : zXS) (M : zMS) (kk : Nat) (h1 : kk < 200) : zMet l dC dI k q y_M_keptBack c_M_keptBack 4 (some .boolean) 1 20 [.ref (q 37), .int (nI kk)] (some (.int (m_kept M kk))) X M X M := by
  refine zMet.of (by decide) (Nat.le_of_ble_eq_true rfl) ?_
  intro p e s m args below meth c ls C hr hk hl h
  have hx := C.1
  have hb := C.2.1
  have hl : lv_has ls 4 [(0, .ref (q 37)), (1, .int (nI kk))] := hl
  have loop : ∀ (c0 i : Nat) (b : Int32) (ls : Array Slot) (H : Heap) (locs : List Loc), i + c0 = kk → m_kept M kk = m_kbr M kk (m_kbl M kk c0 i b) → lv_has ls 4 [(3, .int (nI i)), (2, .int b), (0, .ref (q 37)), (1, .int (nI kk))] → zH dC dI k q X M (zA q) s.heap H locs → W p l e { frames := 1, cells := 0, slots := 0, locals := 20 } s m args below meth c H locs 0 0 (MQ below (zQc dC dI k q X M (some (.int (m_kept M kk)))) args s 0 0 (zA q)) (F0 m 4 ls []) := by
    intro c0
    induction c0 with
    | zero =>
      intro i b ls H locs hi hM hl h
      have hk0 : vp_in (nI kk) 200 := vp_in_nI h1 (by omega)
      refine lv_iload_n hx hb d_M_keptBack_4 rfl (lv_at hl 0 rfl) ?_
      refine lv_iload_n hx hb d_M_keptBack_5 rfl (lv_at hl 3 rfl) ?_
      refine lv_icmp_ge (tgt := 67) hx hb d_M_keptBack_6 (by decide) (fun hh1 => ?_) (fun hh1 => absurd (nI_le (by omega) (by omega)) hh1)
      refine lv_iload_n hx hb d_M_keptBack_67 rfl (lv_at hl 1 rfl) ?_
      refine lv_if_eq (tgt := 87) hx hb d_M_keptBack_68 (by decide) (fun hh2 => ?_) (fun hh2 => ?_)
      · skip
        refine lv_iconst (v := 0) hx hb d_M_keptBack_87 (by decide) ?_
        exact z_retzE C h hr hk (by first | exact Or.inl rfl | exact Or.inr rfl) (by first | rfl | (simp only [hM, m_kbl, m_kbr, hh1, eq_true hh2, ↓reduceIte]; done) | (simp [hM, m_kbl, m_kbr, hh1, eq_true hh2]; done)) (by first | rfl | (simp only [hM, m_kbl, m_kbr, hh1, eq_true hh2, ↓reduceIte]; done) | (simp [hM, m_kbl, m_kbr, hh1, eq_true hh2]; done)) (by first | rfl | (simp only [hM, m_kbl, m_kbr, hh1, eq_true hh2, ↓reduceIte]; done) | (simp [hM, m_kbl, m_kbr, hh1, eq_true hh2]; done)) d_M_keptBack_88
      · skip
        refine lv_aload_n hx hb d_M_keptBack_71 rfl (lv_at hl 2 rfl) ?_
        refine g_M_56 C h d_M_keptBack_72 ?_
        refine lv_iload_n hx hb d_M_keptBack_75 rfl (lv_at hl 3 rfl) ?_
        refine l_M16 C h hk0 d_M_keptBack_76 ?_
        refine z_callS C h (k_M_isOrdered l dC dI k q X M (M 16 (Int32.toNatClampNeg (nI kk)))) co_M_isOrdered ml_M_85 sc_M_isOrdered in_M hd_M_isOrdered ⟨by decide, by decide⟩ ⟨Nat.zero_le _, Nat.zero_le _⟩ hl.1 (Nat.le_of_ble_eq_true rfl) d_M_keptBack_77 rfl (fun H locs h => ?_)
        refine W.eq (g2 := F0 m 80 ls [.int (m_ord (M 16 (Int32.toNatClampNeg (nI kk))))]) rfl ?_
        have h : zH dC dI k q X M (zA q) s.heap H locs := h
        refine lv_if_eq (tgt := 87) hx hb d_M_keptBack_80 (by decide) (fun hh3 => ?_) (fun hh3 => ?_)
        · skip
          refine lv_iconst (v := 0) hx hb d_M_keptBack_87 (by decide) ?_
          exact z_retzE C h hr hk (by first | exact Or.inl rfl | exact Or.inr rfl) (by first | rfl | (simp only [hM, m_kbl, m_kbr, hh1, eq_false hh2, eq_true hh3, ↓reduceIte]; done) | (simp [hM, m_kbl, m_kbr, hh1, eq_false hh2, eq_true hh3]; done)) (by first | rfl | (simp only [hM, m_kbl, m_kbr, hh1, eq_false hh2, eq_true hh3, ↓reduceIte]; done) | (simp [hM, m_kbl, m_kbr, hh1, eq_false hh2, eq_true hh3]; done)) (by first | rfl | (simp only [hM, m_kbl, m_kbr, hh1, eq_false hh2, eq_true hh3, ↓reduceIte]; done) | (simp [hM, m_kbl, m_kbr, hh1, eq_false hh2, eq_true hh3]; done)) d_M_keptBack_88
        · skip
          refine lv_iconst (v := 1) hx hb d_M_keptBack_83 (by decide) ?_
          refine lv_goto (tgt := 88) hx hb d_M_keptBack_84 (by decide) ?_
          exact z_retzE C h hr hk (by first | exact Or.inl rfl | exact Or.inr rfl) (by first | rfl | (simp only [hM, m_kbl, m_kbr, hh1, eq_false hh2, eq_false hh3, ↓reduceIte]; done) | (simp [hM, m_kbl, m_kbr, hh1, eq_false hh2, eq_false hh3]; done)) (by first | rfl | (simp only [hM, m_kbl, m_kbr, hh1, eq_false hh2, eq_false hh3, ↓reduceIte]; done) | (simp [hM, m_kbl, m_kbr, hh1, eq_false hh2, eq_false hh3]; done)) (by first | rfl | (simp only [hM, m_kbl, m_kbr, hh1, eq_false hh2, eq_false hh3, ↓reduceIte]; done) | (simp [hM, m_kbl, m_kbr, hh1, eq_false hh2, eq_false hh3]; done)) d_M_keptBack_88
    | succ c0 ih =>
      intro i b ls H locs hi hM hl h
      have hk0 : vp_in (nI kk) 200 := vp_in_nI h1 (by omega)
      have hi0 : vp_in (nI i) 200 := vp_in_nI (by omega) (by omega)
      refine lv_iload_n hx hb d_M_keptBack_4 rfl (lv_at hl 0 rfl) ?_
      refine lv_iload_n hx hb d_M_keptBack_5 rfl (lv_at hl 3 rfl) ?_
      refine lv_icmp_ge (tgt := 67) hx hb d_M_keptBack_6 (by decide) (fun hh4 => absurd hh4 (nI_ge (by omega) (by omega))) (fun hh4 => ?_)
      refine lv_iload_n hx hb d_M_keptBack_9 rfl (lv_at hl 1 rfl) ?_
      refine lv_if_ne (tgt := 55) hx hb d_M_keptBack_10 (by decide) (fun hh5 => ?_) (fun hh5 => ?_)
      · skip
        refine lv_iconst (v := 1) hx hb d_M_keptBack_55 (by decide) ?_
        refine lv_goto (tgt := 60) hx hb d_M_keptBack_56 (by decide) ?_
        refine lv_istore_n hx hb d_M_keptBack_60 rfl hl (by decide) rfl (fun ls hl => ?_)
        have hl : lv_has ls 4 [(2, .int 1), (3, .int (nI i)), (0, .ref (q 37)), (1, .int (nI kk))] := hl
        refine lv_iinc (k := 1) (v := ((nI i) + 1)) hx hb d_M_keptBack_61 hl rfl rfl (by decide) rfl (fun ls hl => ?_)
        have hl : lv_has ls 4 [(3, .int ((nI i) + 1)), (2, .int 1), (0, .ref (q 37)), (1, .int (nI kk))] := hl
        refine lv_goto (tgt := 4) hx hb d_M_keptBack_64 (by decide) ?_
        exact ih (i + 1) 1 _ _ _ (by omega) (by rw [hM, m_kbl, show m_kb1 M kk i b = 1 by simp [m_kb1, hh4, hh5]]) (by rw [← nI_1]; exact hl) h
      · skip
        refine lv_aload_n hx hb d_M_keptBack_13 rfl (lv_at hl 2 rfl) ?_
        refine g_M_56 C h d_M_keptBack_14 ?_
        refine lv_iload_n hx hb d_M_keptBack_17 rfl (lv_at hl 0 rfl) ?_
        refine l_M16 C h hi0 d_M_keptBack_18 ?_
        refine z_callS C h (k_M_isOrdered l dC dI k q X M (M 16 (Int32.toNatClampNeg (nI i)))) co_M_isOrdered ml_M_85 sc_M_isOrdered in_M hd_M_isOrdered ⟨by decide, by decide⟩ ⟨Nat.zero_le _, Nat.zero_le _⟩ hl.1 (Nat.le_of_ble_eq_true rfl) d_M_keptBack_19 rfl (fun H locs h => ?_)
        refine W.eq (g2 := F0 m 22 ls [.int (m_ord (M 16 (Int32.toNatClampNeg (nI i))))]) rfl ?_
        have h : zH dC dI k q X M (zA q) s.heap H locs := h
        refine lv_if_eq (tgt := 59) hx hb d_M_keptBack_22 (by decide) (fun hh6 => ?_) (fun hh6 => ?_)
        · skip
          refine lv_iconst (v := 0) hx hb d_M_keptBack_59 (by decide) ?_
          refine lv_istore_n hx hb d_M_keptBack_60 rfl hl (by decide) rfl (fun ls hl => ?_)
          have hl : lv_has ls 4 [(2, .int 0), (3, .int (nI i)), (0, .ref (q 37)), (1, .int (nI kk))] := hl
          refine lv_iinc (k := 1) (v := ((nI i) + 1)) hx hb d_M_keptBack_61 hl rfl rfl (by decide) rfl (fun ls hl => ?_)
          have hl : lv_has ls 4 [(3, .int ((nI i) + 1)), (2, .int 0), (0, .ref (q 37)), (1, .int (nI kk))] := hl
          refine lv_goto (tgt := 4) hx hb d_M_keptBack_64 (by decide) ?_
          exact ih (i + 1) 0 _ _ _ (by omega) (by rw [hM, m_kbl, show m_kb1 M kk i b = 0 by simp [m_kb1, hh4, hh5, hh6]]) (by rw [← nI_1]; exact hl) h
        · skip
          refine lv_aload_n hx hb d_M_keptBack_25 rfl (lv_at hl 2 rfl) ?_
          refine g_M_59 C h d_M_keptBack_26 ?_
          refine lv_iload_n hx hb d_M_keptBack_29 rfl (lv_at hl 0 rfl) ?_
          refine l_M17 C h hi0 d_M_keptBack_30 ?_
          refine lv_aload_n hx hb d_M_keptBack_31 rfl (lv_at hl 2 rfl) ?_
          refine g_M_59 C h d_M_keptBack_32 ?_
          refine lv_iload_n hx hb d_M_keptBack_35 rfl (lv_at hl 3 rfl) ?_
          refine l_M17 C h hk0 d_M_keptBack_36 ?_
          refine lv_icmp_ne (tgt := 59) hx hb d_M_keptBack_37 (by decide) (fun hh7 => ?_) (fun hh7 => ?_)
          · skip
            refine lv_iconst (v := 0) hx hb d_M_keptBack_59 (by decide) ?_
            refine lv_istore_n hx hb d_M_keptBack_60 rfl hl (by decide) rfl (fun ls hl => ?_)
            have hl : lv_has ls 4 [(2, .int 0), (3, .int (nI i)), (0, .ref (q 37)), (1, .int (nI kk))] := hl
            refine lv_iinc (k := 1) (v := ((nI i) + 1)) hx hb d_M_keptBack_61 hl rfl rfl (by decide) rfl (fun ls hl => ?_)
            have hl : lv_has ls 4 [(3, .int ((nI i) + 1)), (2, .int 0), (0, .ref (q 37)), (1, .int (nI kk))] := hl
            refine lv_goto (tgt := 4) hx hb d_M_keptBack_64 (by decide) ?_
            exact ih (i + 1) 0 _ _ _ (by omega) (by rw [hM, m_kbl, show m_kb1 M kk i b = 0 by simp [m_kb1, hh4, hh5, hh6, hh7]]) (by rw [← nI_1]; exact hl) h
          · skip
            refine lv_aload_n hx hb d_M_keptBack_40 rfl (lv_at hl 2 rfl) ?_
            refine g_M_65 C h d_M_keptBack_41 ?_
            refine lv_iload_n hx hb d_M_keptBack_44 rfl (lv_at hl 0 rfl) ?_
            refine l_M19 C h hi0 d_M_keptBack_45 ?_
            refine lv_aload_n hx hb d_M_keptBack_46 rfl (lv_at hl 2 rfl) ?_
            refine g_M_65 C h d_M_keptBack_47 ?_
            refine lv_iload_n hx hb d_M_keptBack_50 rfl (lv_at hl 3 rfl) ?_
            refine l_M19 C h hk0 d_M_keptBack_51 ?_
            refine lv_icmp_ne (tgt := 59) hx hb d_M_keptBack_52 (by decide) (fun hh8 => ?_) (fun hh8 => ?_)
            · skip
              refine lv_iconst (v := 0) hx hb d_M_keptBack_59 (by decide) ?_
              refine lv_istore_n hx hb d_M_keptBack_60 rfl hl (by decide) rfl (fun ls hl => ?_)
              have hl : lv_has ls 4 [(2, .int 0), (3, .int (nI i)), (0, .ref (q 37)), (1, .int (nI kk))] := hl
              refine lv_iinc (k := 1) (v := ((nI i) + 1)) hx hb d_M_keptBack_61 hl rfl rfl (by decide) rfl (fun ls hl => ?_)
              have hl : lv_has ls 4 [(3, .int ((nI i) + 1)), (2, .int 0), (0, .ref (q 37)), (1, .int (nI kk))] := hl
              refine lv_goto (tgt := 4) hx hb d_M_keptBack_64 (by decide) ?_
              exact ih (i + 1) 0 _ _ _ (by omega) (by rw [hM, m_kbl, show m_kb1 M kk i b = 0 by simp [m_kb1, hh4, hh5, hh6, hh7, hh8]]) (by rw [← nI_1]; exact hl) h
            · skip
              refine lv_iconst (v := 1) hx hb d_M_keptBack_55 (by decide) ?_
              refine lv_goto (tgt := 60) hx hb d_M_keptBack_56 (by decide) ?_
              refine lv_istore_n hx hb d_M_keptBack_60 rfl hl (by decide) rfl (fun ls hl => ?_)
              have hl : lv_has ls 4 [(2, .int 1), (3, .int (nI i)), (0, .ref (q 37)), (1, .int (nI kk))] := hl
              refine lv_iinc (k := 1) (v := ((nI i) + 1)) hx hb d_M_keptBack_61 hl rfl rfl (by decide) rfl (fun ls hl => ?_)
              have hl : lv_has ls 4 [(3, .int ((nI i) + 1)), (2, .int 1), (0, .ref (q 37)), (1, .int (nI kk))] := hl
              refine lv_goto (tgt := 4) hx hb d_M_keptBack_64 (by decide) ?_
              exact ih (i + 1) 1 _ _ _ (by omega) (by rw [hM, m_kbl, show m_kb1 M kk i b = 1 by simp [m_kb1, hh4, hh5, hh6, hh7, hh8]]) (by rw [← nI_1]; exact hl) h
  refine lv_iconst (v := 0) hx hb d_M_keptBack_0 (by decide) ?_
  refine lv_istore_n hx hb d_M_keptBack_1 rfl hl (by decide) rfl (fun ls hl => ?_)
  have hl : lv_has ls 4 [(2, .int 0), (0, .ref (q 37)), (1, .int (nI kk))] := hl
  refine lv_iconst (v := 0) hx hb d_M_keptBack_2 (by decide) ?_
  refine lv_istore_n hx hb d_M_keptBack_3 rfl hl (by decide) rfl (fun ls hl => ?_)
  have hl : lv_has ls 4 [(3, .int 0), (2, .int 0), (0, .ref (q 37)), (1, .int (nI kk))] := hl
  exact loop kk 0 0 _ _ _ (by omega) rfl hl h
end
section
theorem vp4 {r a : Int32} (hr : vp_in r 4) (ha : vp_in a 4) : vp_in (4 * r + a) 16 := by
  obtain ⟨i, hi, rfl⟩ := vp_in_of hr (by omega)
  obtain ⟨j, hj, rfl⟩ := vp_in_of ha (by omega)
  rw [show (4 : Int32) = nI 4 from rfl, pk_mul, nI_add]
  exact vp_in_nI (by omega) (by omega)
theorem nI_next {M : zMS} {n : Nat} {w a f t r k v : Int32} (h : M 15 0 = nI n) : (m_send M w a f t r k v) 15 0 = nI (n + 1) := by
  show M 15 0 + 1 = nI (n + 1)
  rw [h, nI_1]
theorem z_room {x : Int32} {n : Nat} (h : x = nI n) (hn : n < 200) : vp_in x 200 := by
  rw [h]; exact vp_in_nI hn (by omega)
theorem hd_M_toRead : y_M_toRead.cls ≠ "java/lang/invoke/MethodHandle" ∧ y_M_toRead.cls ≠ "java/lang/invoke/VarHandle" ∧ (parseMethodDescriptor y_M_toRead.desc).map (fun d => d.parameters.length) = some 2 := by decide +kernel
def m_M_toRead (X : zXS) (M : zMS) (a : Int32) (r : Int32) : zMS := (if (M 11 (Int32.toNatClampNeg a)) = 0 then (u2 (u2 (m_send M 10 a 4 r r 0 (M 14 (Int32.toNatClampNeg a))) 12 (Int32.toNatClampNeg a) r) 11 (Int32.toNatClampNeg a) 2) else (if (M 11 (Int32.toNatClampNeg a)) = 1 then (u2 (m_send M 9 a 4 r r 0 (M 14 (Int32.toNatClampNeg a))) 13 (Int32.toNatClampNeg a) (((m_send M 9 a 4 r r 0 (M 14 (Int32.toNatClampNeg a))) 13 (Int32.toNatClampNeg a)) ||| (1 <<< (r &&& 31)))) else (u2 (u2 (m_send M 5 a 4 (M 12 (Int32.toNatClampNeg a)) r 0 0) 13 (Int32.toNatClampNeg a) ((1 <<< (((m_send M 5 a 4 (M 12 (Int32.toNatClampNeg a)) r 0 0) 12 (Int32.toNatClampNeg a)) &&& 31)) ||| (1 <<< (r &&& 31)))) 11 (Int32.toNatClampNeg a) 3)))
set_option maxHeartbeats 4000000 in
set_option maxRecDepth 100000 in
theorem k_M_toRead (l : Launch) (dC : Nat → ClassId) (dI : Nat → Nat → Nat) (k : Nat → ClassId) (q : Nat → Nat) (X : zXS) (M : zMS) (a : Int32) (r : Int32)  (n : Nat) (hn : M 15 0 = nI n) (hb9 : n + 4 < 200) (ha : vp_in a 4) (hr4 : vp_in r 4) : zMet l dC dI k q y_M_toRead c_M_toRead 3 none 2 53 [.ref (q 37), .int a, .int r] none X M X (m_M_toRead X M a r) := by
  refine zMet.of (by decide) (Nat.le_of_ble_eq_true rfl) ?_
  intro p e s m args below meth c ls C hr hk hl h
  have hx := C.1
  have hb := C.2.1
  have hl : lv_has ls 3 [(0, .ref (q 37)), (1, .int a), (2, .int r)] := hl
  refine lv_aload_n hx hb d_M_toRead_0 rfl (lv_at hl 0 rfl) ?_
  refine g_M_44 C h d_M_toRead_1 ?_
  refine lv_iload_n hx hb d_M_toRead_4 rfl (lv_at hl 1 rfl) ?_
  refine l_M11 C h ha d_M_toRead_5 ?_
  refine lv_if_ne (tgt := 43) hx hb d_M_toRead_6 (by decide) (fun hh1 => ?_) (fun hh1 => ?_)
  · skip
    refine lv_aload_n hx hb d_M_toRead_43 rfl (lv_at hl 0 rfl) ?_
    refine g_M_44 C h d_M_toRead_44 ?_
    refine lv_iload_n hx hb d_M_toRead_47 rfl (lv_at hl 1 rfl) ?_
    refine l_M11 C h ha d_M_toRead_48 ?_
    refine lv_iconst (v := 1) hx hb d_M_toRead_49 (by decide) ?_
    refine lv_icmp_ne (tgt := 89) hx hb d_M_toRead_50 (by decide) (fun hh2 => ?_) (fun hh2 => ?_)
    · skip
      refine lv_aload_n hx hb d_M_toRead_89 rfl (lv_at hl 0 rfl) ?_
      refine lv_iconst (v := 5) hx hb d_M_toRead_90 (by decide) ?_
      refine lv_iload_n hx hb d_M_toRead_91 rfl (lv_at hl 1 rfl) ?_
      refine lv_iconst (v := 4) hx hb d_M_toRead_92 (by decide) ?_
      refine lv_aload_n hx hb d_M_toRead_93 rfl (lv_at hl 0 rfl) ?_
      refine g_M_47 C h d_M_toRead_94 ?_
      refine lv_iload_n hx hb d_M_toRead_97 rfl (lv_at hl 1 rfl) ?_
      refine l_M12 C h ha d_M_toRead_98 ?_
      refine lv_iload_n hx hb d_M_toRead_99 rfl (lv_at hl 2 rfl) ?_
      refine lv_iconst (v := 0) hx hb d_M_toRead_100 (by decide) ?_
      refine z_callV (i := 37) C h (k_M_send l dC dI k q X M 5 a 4 (M 12 (Int32.toNatClampNeg a)) r 0 (z_room hn (by omega)) (vp4 hr4 ha)) co_M_send ml_M_130 im_M_send se_M_send in_M rfl rfl hd_M_send ⟨by decide, by decide⟩ ⟨Nat.zero_le _, Nat.zero_le _⟩ hl.1 (Nat.le_of_ble_eq_true rfl) d_M_toRead_101 rfl (fun H locs h => ?_)
      refine W.eq (g2 := F0 m 104 ls []) rfl ?_
      have h : zH dC dI k q X (m_send M 5 a 4 (M 12 (Int32.toNatClampNeg a)) r 0 0) (zA q) s.heap H locs := h
      refine lv_aload_n hx hb d_M_toRead_104 rfl (lv_at hl 0 rfl) ?_
      refine g_M_50 C h d_M_toRead_105 ?_
      refine lv_iload_n hx hb d_M_toRead_108 rfl (lv_at hl 1 rfl) ?_
      refine lv_iconst (v := 1) hx hb d_M_toRead_109 (by decide) ?_
      refine lv_aload_n hx hb d_M_toRead_110 rfl (lv_at hl 0 rfl) ?_
      refine g_M_47 C h d_M_toRead_111 ?_
      refine lv_iload_n hx hb d_M_toRead_114 rfl (lv_at hl 1 rfl) ?_
      refine l_M12 C h ha d_M_toRead_115 ?_
      refine lv_ishl hx hb d_M_toRead_116 ?_
      refine lv_iconst (v := 1) hx hb d_M_toRead_117 (by decide) ?_
      refine lv_iload_n hx hb d_M_toRead_118 rfl (lv_at hl 2 rfl) ?_
      refine lv_ishl hx hb d_M_toRead_119 ?_
      refine lv_ior hx hb d_M_toRead_120 ?_
      refine s_M13 C h ha d_M_toRead_121 (fun H locs h => ?_)
      refine lv_aload_n hx hb d_M_toRead_122 rfl (lv_at hl 0 rfl) ?_
      refine g_M_44 C h d_M_toRead_123 ?_
      refine lv_iload_n hx hb d_M_toRead_126 rfl (lv_at hl 1 rfl) ?_
      refine lv_iconst (v := 3) hx hb d_M_toRead_127 (by decide) ?_
      refine s_M11 C h ha d_M_toRead_128 (fun H locs h => ?_)
      exact z_retvE C h hr hk (by first | rfl | (simp only [m_M_toRead, eq_false hh1, eq_false hh2, ↓reduceIte]; done) | (simp [m_M_toRead, eq_false hh1, eq_false hh2]; done)) (by first | rfl | (simp only [m_M_toRead, eq_false hh1, eq_false hh2, ↓reduceIte]; done) | (simp [m_M_toRead, eq_false hh1, eq_false hh2]; done)) d_M_toRead_129
    · skip
      refine lv_aload_n hx hb d_M_toRead_53 rfl (lv_at hl 0 rfl) ?_
      refine lv_bipush (v := 9) hx hb d_M_toRead_54 (by decide) ?_
      refine lv_iload_n hx hb d_M_toRead_56 rfl (lv_at hl 1 rfl) ?_
      refine lv_iconst (v := 4) hx hb d_M_toRead_57 (by decide) ?_
      refine lv_iload_n hx hb d_M_toRead_58 rfl (lv_at hl 2 rfl) ?_
      refine lv_iload_n hx hb d_M_toRead_59 rfl (lv_at hl 2 rfl) ?_
      refine lv_iconst (v := 0) hx hb d_M_toRead_60 (by decide) ?_
      refine lv_aload_n hx hb d_M_toRead_61 rfl (lv_at hl 0 rfl) ?_
      refine g_M_53 C h d_M_toRead_62 ?_
      refine lv_iload_n hx hb d_M_toRead_65 rfl (lv_at hl 1 rfl) ?_
      refine l_M14 C h ha d_M_toRead_66 ?_
      refine z_callV (i := 37) C h (k_M_sendWith l dC dI k q X M 9 a 4 r r 0 (M 14 (Int32.toNatClampNeg a)) (z_room hn (by omega)) (vp4 hr4 ha)) co_M_sendWith ml_M_77 im_M_sendWith se_M_sendWith in_M rfl rfl hd_M_sendWith ⟨by decide, by decide⟩ ⟨Nat.zero_le _, Nat.zero_le _⟩ hl.1 (Nat.le_of_ble_eq_true rfl) d_M_toRead_67 rfl (fun H locs h => ?_)
      refine W.eq (g2 := F0 m 70 ls []) rfl ?_
      have h : zH dC dI k q X (m_send M 9 a 4 r r 0 (M 14 (Int32.toNatClampNeg a))) (zA q) s.heap H locs := h
      refine lv_aload_n hx hb d_M_toRead_70 rfl (lv_at hl 0 rfl) ?_
      refine g_M_50 C h d_M_toRead_71 ?_
      refine lv_iload_n hx hb d_M_toRead_74 rfl (lv_at hl 1 rfl) ?_
      refine lv_aload_n hx hb d_M_toRead_75 rfl (lv_at hl 0 rfl) ?_
      refine g_M_50 C h d_M_toRead_76 ?_
      refine lv_iload_n hx hb d_M_toRead_79 rfl (lv_at hl 1 rfl) ?_
      refine l_M13 C h ha d_M_toRead_80 ?_
      refine lv_iconst (v := 1) hx hb d_M_toRead_81 (by decide) ?_
      refine lv_iload_n hx hb d_M_toRead_82 rfl (lv_at hl 2 rfl) ?_
      refine lv_ishl hx hb d_M_toRead_83 ?_
      refine lv_ior hx hb d_M_toRead_84 ?_
      refine s_M13 C h ha d_M_toRead_85 (fun H locs h => ?_)
      refine lv_goto (tgt := 129) hx hb d_M_toRead_86 (by decide) ?_
      exact z_retvE C h hr hk (by first | rfl | (simp only [m_M_toRead, eq_false hh1, eq_true hh2, ↓reduceIte]; done) | (simp [m_M_toRead, eq_false hh1, eq_true hh2]; done)) (by first | rfl | (simp only [m_M_toRead, eq_false hh1, eq_true hh2, ↓reduceIte]; done) | (simp [m_M_toRead, eq_false hh1, eq_true hh2]; done)) d_M_toRead_129
  · skip
    refine lv_aload_n hx hb d_M_toRead_9 rfl (lv_at hl 0 rfl) ?_
    refine lv_bipush (v := 10) hx hb d_M_toRead_10 (by decide) ?_
    refine lv_iload_n hx hb d_M_toRead_12 rfl (lv_at hl 1 rfl) ?_
    refine lv_iconst (v := 4) hx hb d_M_toRead_13 (by decide) ?_
    refine lv_iload_n hx hb d_M_toRead_14 rfl (lv_at hl 2 rfl) ?_
    refine lv_iload_n hx hb d_M_toRead_15 rfl (lv_at hl 2 rfl) ?_
    refine lv_iconst (v := 0) hx hb d_M_toRead_16 (by decide) ?_
    refine lv_aload_n hx hb d_M_toRead_17 rfl (lv_at hl 0 rfl) ?_
    refine g_M_53 C h d_M_toRead_18 ?_
    refine lv_iload_n hx hb d_M_toRead_21 rfl (lv_at hl 1 rfl) ?_
    refine l_M14 C h ha d_M_toRead_22 ?_
    refine z_callV (i := 37) C h (k_M_sendWith l dC dI k q X M 10 a 4 r r 0 (M 14 (Int32.toNatClampNeg a)) (z_room hn (by omega)) (vp4 hr4 ha)) co_M_sendWith ml_M_77 im_M_sendWith se_M_sendWith in_M rfl rfl hd_M_sendWith ⟨by decide, by decide⟩ ⟨Nat.zero_le _, Nat.zero_le _⟩ hl.1 (Nat.le_of_ble_eq_true rfl) d_M_toRead_23 rfl (fun H locs h => ?_)
    refine W.eq (g2 := F0 m 26 ls []) rfl ?_
    have h : zH dC dI k q X (m_send M 10 a 4 r r 0 (M 14 (Int32.toNatClampNeg a))) (zA q) s.heap H locs := h
    refine lv_aload_n hx hb d_M_toRead_26 rfl (lv_at hl 0 rfl) ?_
    refine g_M_47 C h d_M_toRead_27 ?_
    refine lv_iload_n hx hb d_M_toRead_30 rfl (lv_at hl 1 rfl) ?_
    refine lv_iload_n hx hb d_M_toRead_31 rfl (lv_at hl 2 rfl) ?_
    refine s_M12 C h ha d_M_toRead_32 (fun H locs h => ?_)
    refine lv_aload_n hx hb d_M_toRead_33 rfl (lv_at hl 0 rfl) ?_
    refine g_M_44 C h d_M_toRead_34 ?_
    refine lv_iload_n hx hb d_M_toRead_37 rfl (lv_at hl 1 rfl) ?_
    refine lv_iconst (v := 2) hx hb d_M_toRead_38 (by decide) ?_
    refine s_M11 C h ha d_M_toRead_39 (fun H locs h => ?_)
    refine lv_goto (tgt := 129) hx hb d_M_toRead_40 (by decide) ?_
    exact z_retvE C h hr hk (by first | rfl | (simp only [m_M_toRead, eq_true hh1, ↓reduceIte]; done) | (simp [m_M_toRead, eq_true hh1]; done)) (by first | rfl | (simp only [m_M_toRead, eq_true hh1, ↓reduceIte]; done) | (simp [m_M_toRead, eq_true hh1]; done)) d_M_toRead_129
theorem hd_M_toLeave : y_M_toLeave.cls ≠ "java/lang/invoke/MethodHandle" ∧ y_M_toLeave.cls ≠ "java/lang/invoke/VarHandle" ∧ (parseMethodDescriptor y_M_toLeave.desc).map (fun d => d.parameters.length) = some 4 := by decide +kernel
def m_M_toLeave (X : zXS) (M : zMS) (w : Int32) (a : Int32) (r : Int32) (v : Int32) : zMS := (if (M 11 (Int32.toNatClampNeg a)) = 2 then (if (M 12 (Int32.toNatClampNeg a)) = r then (if w = 4 then (m_send (u2 (u2 M 14 (Int32.toNatClampNeg a) v) 11 (Int32.toNatClampNeg a) 0) 8 a 4 r r 0 0) else (m_send (u2 M 11 (Int32.toNatClampNeg a) 0) 8 a 4 r r 0 0)) else (if (M 11 (Int32.toNatClampNeg a)) = 1 then (if ((u2 M 13 (Int32.toNatClampNeg a) ((M 13 (Int32.toNatClampNeg a)) &&& ((1 <<< (r &&& 31)) ^^^ (-1)))) 13 (Int32.toNatClampNeg a)) = 0 then (m_send (u2 (u2 M 13 (Int32.toNatClampNeg a) ((M 13 (Int32.toNatClampNeg a)) &&& ((1 <<< (r &&& 31)) ^^^ (-1)))) 11 (Int32.toNatClampNeg a) 0) 8 a 4 r r 0 0) else (m_send (u2 M 13 (Int32.toNatClampNeg a) ((M 13 (Int32.toNatClampNeg a)) &&& ((1 <<< (r &&& 31)) ^^^ (-1)))) 8 a 4 r r 0 0)) else (m_send (u2 M 13 (Int32.toNatClampNeg a) ((M 13 (Int32.toNatClampNeg a)) &&& ((1 <<< (r &&& 31)) ^^^ (-1)))) 8 a 4 r r 0 0))) else (if (M 11 (Int32.toNatClampNeg a)) = 1 then (if ((u2 M 13 (Int32.toNatClampNeg a) ((M 13 (Int32.toNatClampNeg a)) &&& ((1 <<< (r &&& 31)) ^^^ (-1)))) 13 (Int32.toNatClampNeg a)) = 0 then (m_send (u2 (u2 M 13 (Int32.toNatClampNeg a) ((M 13 (Int32.toNatClampNeg a)) &&& ((1 <<< (r &&& 31)) ^^^ (-1)))) 11 (Int32.toNatClampNeg a) 0) 8 a 4 r r 0 0) else (m_send (u2 M 13 (Int32.toNatClampNeg a) ((M 13 (Int32.toNatClampNeg a)) &&& ((1 <<< (r &&& 31)) ^^^ (-1)))) 8 a 4 r r 0 0)) else (m_send (u2 M 13 (Int32.toNatClampNeg a) ((M 13 (Int32.toNatClampNeg a)) &&& ((1 <<< (r &&& 31)) ^^^ (-1)))) 8 a 4 r r 0 0)))
set_option maxHeartbeats 4000000 in
set_option maxRecDepth 100000 in
theorem k_M_toLeave (l : Launch) (dC : Nat → ClassId) (dI : Nat → Nat → Nat) (k : Nat → ClassId) (q : Nat → Nat) (X : zXS) (M : zMS) (w : Int32) (a : Int32) (r : Int32) (v : Int32)  (n : Nat) (hn : M 15 0 = nI n) (hb9 : n + 4 < 200) (ha : vp_in a 4) (hr4 : vp_in r 4) : zMet l dC dI k q y_M_toLeave c_M_toLeave 5 none 2 53 [.ref (q 37), .int w, .int a, .int r, .int v] none X M X (m_M_toLeave X M w a r v) := by
  refine zMet.of (by decide) (Nat.le_of_ble_eq_true rfl) ?_
  intro p e s m args below meth c ls C hr hk hl h
  have hx := C.1
  have hb := C.2.1
  have hl : lv_has ls 5 [(0, .ref (q 37)), (1, .int w), (2, .int a), (3, .int r), (4, .int v)] := hl
  refine lv_aload_n hx hb d_M_toLeave_0 rfl (lv_at hl 0 rfl) ?_
  refine g_M_44 C h d_M_toLeave_1 ?_
  refine lv_iload_n hx hb d_M_toLeave_4 rfl (lv_at hl 2 rfl) ?_
  refine l_M11 C h ha d_M_toLeave_5 ?_
  refine lv_iconst (v := 2) hx hb d_M_toLeave_6 (by decide) ?_
  refine lv_icmp_ne (tgt := 43) hx hb d_M_toLeave_7 (by decide) (fun hh1 => ?_) (fun hh1 => ?_)
  · skip
    refine lv_aload_n hx hb d_M_toLeave_43 rfl (lv_at hl 0 rfl) ?_
    refine g_M_50 C h d_M_toLeave_44 ?_
    refine lv_iload_n hx hb d_M_toLeave_47 rfl (lv_at hl 2 rfl) ?_
    refine lv_aload_n hx hb d_M_toLeave_48 rfl (lv_at hl 0 rfl) ?_
    refine g_M_50 C h d_M_toLeave_49 ?_
    refine lv_iload_n hx hb d_M_toLeave_52 rfl (lv_at hl 2 rfl) ?_
    refine l_M13 C h ha d_M_toLeave_53 ?_
    refine lv_iconst (v := 1) hx hb d_M_toLeave_54 (by decide) ?_
    refine lv_iload_n hx hb d_M_toLeave_55 rfl (lv_at hl 3 rfl) ?_
    refine lv_ishl hx hb d_M_toLeave_56 ?_
    refine lv_iconst (v := -1) hx hb d_M_toLeave_57 (by decide) ?_
    refine lv_ixor hx hb d_M_toLeave_58 ?_
    refine lv_iand hx hb d_M_toLeave_59 ?_
    refine s_M13 C h ha d_M_toLeave_60 (fun H locs h => ?_)
    refine lv_aload_n hx hb d_M_toLeave_61 rfl (lv_at hl 0 rfl) ?_
    refine g_M_44 C h d_M_toLeave_62 ?_
    refine lv_iload_n hx hb d_M_toLeave_65 rfl (lv_at hl 2 rfl) ?_
    refine l_M11 C h ha d_M_toLeave_66 ?_
    refine z_top (y := M 11 (Int32.toNatClampNeg a)) rfl ?_
    refine lv_iconst (v := 1) hx hb d_M_toLeave_67 (by decide) ?_
    refine lv_icmp_ne (tgt := 87) hx hb d_M_toLeave_68 (by decide) (fun hh2 => ?_) (fun hh2 => ?_)
    · skip
      refine lv_aload_n hx hb d_M_toLeave_87 rfl (lv_at hl 0 rfl) ?_
      refine lv_bipush (v := 8) hx hb d_M_toLeave_88 (by decide) ?_
      refine lv_iload_n hx hb d_M_toLeave_90 rfl (lv_at hl 2 rfl) ?_
      refine lv_iconst (v := 4) hx hb d_M_toLeave_91 (by decide) ?_
      refine lv_iload_n hx hb d_M_toLeave_92 rfl (lv_at hl 3 rfl) ?_
      refine lv_iload_n hx hb d_M_toLeave_93 rfl (lv_at hl 3 rfl) ?_
      refine lv_iconst (v := 0) hx hb d_M_toLeave_94 (by decide) ?_
      refine z_callV (i := 37) C h (k_M_send l dC dI k q X (u2 M 13 (Int32.toNatClampNeg a) ((M 13 (Int32.toNatClampNeg a)) &&& ((1 <<< (r &&& 31)) ^^^ (-1)))) 8 a 4 r r 0 (z_room hn (by omega)) (vp4 hr4 ha)) co_M_send ml_M_130 im_M_send se_M_send in_M rfl rfl hd_M_send ⟨by decide, by decide⟩ ⟨Nat.zero_le _, Nat.zero_le _⟩ hl.1 (Nat.le_of_ble_eq_true rfl) d_M_toLeave_95 rfl (fun H locs h => ?_)
      refine W.eq (g2 := F0 m 98 ls []) rfl ?_
      have h : zH dC dI k q X (m_send (u2 M 13 (Int32.toNatClampNeg a) ((M 13 (Int32.toNatClampNeg a)) &&& ((1 <<< (r &&& 31)) ^^^ (-1)))) 8 a 4 r r 0 0) (zA q) s.heap H locs := h
      exact z_retvE C h hr hk (by first | rfl | (simp only [m_M_toLeave, eq_false hh1, eq_false hh2, ↓reduceIte]; done) | (simp [m_M_toLeave, eq_false hh1, eq_false hh2]; done)) (by first | rfl | (simp only [m_M_toLeave, eq_false hh1, eq_false hh2, ↓reduceIte]; done) | (simp [m_M_toLeave, eq_false hh1, eq_false hh2]; done)) d_M_toLeave_98
    · skip
      refine lv_aload_n hx hb d_M_toLeave_71 rfl (lv_at hl 0 rfl) ?_
      refine g_M_50 C h d_M_toLeave_72 ?_
      refine lv_iload_n hx hb d_M_toLeave_75 rfl (lv_at hl 2 rfl) ?_
      refine l_M13 C h ha d_M_toLeave_76 ?_
      refine lv_if_ne (tgt := 87) hx hb d_M_toLeave_77 (by decide) (fun hh3 => ?_) (fun hh3 => ?_)
      · skip
        refine lv_aload_n hx hb d_M_toLeave_87 rfl (lv_at hl 0 rfl) ?_
        refine lv_bipush (v := 8) hx hb d_M_toLeave_88 (by decide) ?_
        refine lv_iload_n hx hb d_M_toLeave_90 rfl (lv_at hl 2 rfl) ?_
        refine lv_iconst (v := 4) hx hb d_M_toLeave_91 (by decide) ?_
        refine lv_iload_n hx hb d_M_toLeave_92 rfl (lv_at hl 3 rfl) ?_
        refine lv_iload_n hx hb d_M_toLeave_93 rfl (lv_at hl 3 rfl) ?_
        refine lv_iconst (v := 0) hx hb d_M_toLeave_94 (by decide) ?_
        refine z_callV (i := 37) C h (k_M_send l dC dI k q X (u2 M 13 (Int32.toNatClampNeg a) ((M 13 (Int32.toNatClampNeg a)) &&& ((1 <<< (r &&& 31)) ^^^ (-1)))) 8 a 4 r r 0 (z_room hn (by omega)) (vp4 hr4 ha)) co_M_send ml_M_130 im_M_send se_M_send in_M rfl rfl hd_M_send ⟨by decide, by decide⟩ ⟨Nat.zero_le _, Nat.zero_le _⟩ hl.1 (Nat.le_of_ble_eq_true rfl) d_M_toLeave_95 rfl (fun H locs h => ?_)
        refine W.eq (g2 := F0 m 98 ls []) rfl ?_
        have h : zH dC dI k q X (m_send (u2 M 13 (Int32.toNatClampNeg a) ((M 13 (Int32.toNatClampNeg a)) &&& ((1 <<< (r &&& 31)) ^^^ (-1)))) 8 a 4 r r 0 0) (zA q) s.heap H locs := h
        exact z_retvE C h hr hk (by first | rfl | (simp only [m_M_toLeave, eq_false hh1, eq_true hh2, eq_false hh3, ↓reduceIte]; done) | (simp [m_M_toLeave, eq_false hh1, eq_true hh2, eq_false hh3]; done)) (by first | rfl | (simp only [m_M_toLeave, eq_false hh1, eq_true hh2, eq_false hh3, ↓reduceIte]; done) | (simp [m_M_toLeave, eq_false hh1, eq_true hh2, eq_false hh3]; done)) d_M_toLeave_98
      · skip
        refine lv_aload_n hx hb d_M_toLeave_80 rfl (lv_at hl 0 rfl) ?_
        refine g_M_44 C h d_M_toLeave_81 ?_
        refine lv_iload_n hx hb d_M_toLeave_84 rfl (lv_at hl 2 rfl) ?_
        refine lv_iconst (v := 0) hx hb d_M_toLeave_85 (by decide) ?_
        refine s_M11 C h ha d_M_toLeave_86 (fun H locs h => ?_)
        refine lv_aload_n hx hb d_M_toLeave_87 rfl (lv_at hl 0 rfl) ?_
        refine lv_bipush (v := 8) hx hb d_M_toLeave_88 (by decide) ?_
        refine lv_iload_n hx hb d_M_toLeave_90 rfl (lv_at hl 2 rfl) ?_
        refine lv_iconst (v := 4) hx hb d_M_toLeave_91 (by decide) ?_
        refine lv_iload_n hx hb d_M_toLeave_92 rfl (lv_at hl 3 rfl) ?_
        refine lv_iload_n hx hb d_M_toLeave_93 rfl (lv_at hl 3 rfl) ?_
        refine lv_iconst (v := 0) hx hb d_M_toLeave_94 (by decide) ?_
        refine z_callV (i := 37) C h (k_M_send l dC dI k q X (u2 (u2 M 13 (Int32.toNatClampNeg a) ((M 13 (Int32.toNatClampNeg a)) &&& ((1 <<< (r &&& 31)) ^^^ (-1)))) 11 (Int32.toNatClampNeg a) 0) 8 a 4 r r 0 (z_room hn (by omega)) (vp4 hr4 ha)) co_M_send ml_M_130 im_M_send se_M_send in_M rfl rfl hd_M_send ⟨by decide, by decide⟩ ⟨Nat.zero_le _, Nat.zero_le _⟩ hl.1 (Nat.le_of_ble_eq_true rfl) d_M_toLeave_95 rfl (fun H locs h => ?_)
        refine W.eq (g2 := F0 m 98 ls []) rfl ?_
        have h : zH dC dI k q X (m_send (u2 (u2 M 13 (Int32.toNatClampNeg a) ((M 13 (Int32.toNatClampNeg a)) &&& ((1 <<< (r &&& 31)) ^^^ (-1)))) 11 (Int32.toNatClampNeg a) 0) 8 a 4 r r 0 0) (zA q) s.heap H locs := h
        exact z_retvE C h hr hk (by first | rfl | (simp only [m_M_toLeave, eq_false hh1, eq_true hh2, eq_true hh3, ↓reduceIte]; done) | (simp [m_M_toLeave, eq_false hh1, eq_true hh2, eq_true hh3]; done)) (by first | rfl | (simp only [m_M_toLeave, eq_false hh1, eq_true hh2, eq_true hh3, ↓reduceIte]; done) | (simp [m_M_toLeave, eq_false hh1, eq_true hh2, eq_true hh3]; done)) d_M_toLeave_98
  · skip
    refine lv_aload_n hx hb d_M_toLeave_10 rfl (lv_at hl 0 rfl) ?_
    refine g_M_47 C h d_M_toLeave_11 ?_
    refine lv_iload_n hx hb d_M_toLeave_14 rfl (lv_at hl 2 rfl) ?_
    refine l_M12 C h ha d_M_toLeave_15 ?_
    refine lv_iload_n hx hb d_M_toLeave_16 rfl (lv_at hl 3 rfl) ?_
    refine lv_icmp_ne (tgt := 43) hx hb d_M_toLeave_17 (by decide) (fun hh4 => ?_) (fun hh4 => ?_)
    · skip
      refine lv_aload_n hx hb d_M_toLeave_43 rfl (lv_at hl 0 rfl) ?_
      refine g_M_50 C h d_M_toLeave_44 ?_
      refine lv_iload_n hx hb d_M_toLeave_47 rfl (lv_at hl 2 rfl) ?_
      refine lv_aload_n hx hb d_M_toLeave_48 rfl (lv_at hl 0 rfl) ?_
      refine g_M_50 C h d_M_toLeave_49 ?_
      refine lv_iload_n hx hb d_M_toLeave_52 rfl (lv_at hl 2 rfl) ?_
      refine l_M13 C h ha d_M_toLeave_53 ?_
      refine lv_iconst (v := 1) hx hb d_M_toLeave_54 (by decide) ?_
      refine lv_iload_n hx hb d_M_toLeave_55 rfl (lv_at hl 3 rfl) ?_
      refine lv_ishl hx hb d_M_toLeave_56 ?_
      refine lv_iconst (v := -1) hx hb d_M_toLeave_57 (by decide) ?_
      refine lv_ixor hx hb d_M_toLeave_58 ?_
      refine lv_iand hx hb d_M_toLeave_59 ?_
      refine s_M13 C h ha d_M_toLeave_60 (fun H locs h => ?_)
      refine lv_aload_n hx hb d_M_toLeave_61 rfl (lv_at hl 0 rfl) ?_
      refine g_M_44 C h d_M_toLeave_62 ?_
      refine lv_iload_n hx hb d_M_toLeave_65 rfl (lv_at hl 2 rfl) ?_
      refine l_M11 C h ha d_M_toLeave_66 ?_
      refine z_top (y := M 11 (Int32.toNatClampNeg a)) rfl ?_
      refine lv_iconst (v := 1) hx hb d_M_toLeave_67 (by decide) ?_
      refine lv_icmp_ne (tgt := 87) hx hb d_M_toLeave_68 (by decide) (fun hh5 => ?_) (fun hh5 => ?_)
      · skip
        refine lv_aload_n hx hb d_M_toLeave_87 rfl (lv_at hl 0 rfl) ?_
        refine lv_bipush (v := 8) hx hb d_M_toLeave_88 (by decide) ?_
        refine lv_iload_n hx hb d_M_toLeave_90 rfl (lv_at hl 2 rfl) ?_
        refine lv_iconst (v := 4) hx hb d_M_toLeave_91 (by decide) ?_
        refine lv_iload_n hx hb d_M_toLeave_92 rfl (lv_at hl 3 rfl) ?_
        refine lv_iload_n hx hb d_M_toLeave_93 rfl (lv_at hl 3 rfl) ?_
        refine lv_iconst (v := 0) hx hb d_M_toLeave_94 (by decide) ?_
        refine z_callV (i := 37) C h (k_M_send l dC dI k q X (u2 M 13 (Int32.toNatClampNeg a) ((M 13 (Int32.toNatClampNeg a)) &&& ((1 <<< (r &&& 31)) ^^^ (-1)))) 8 a 4 r r 0 (z_room hn (by omega)) (vp4 hr4 ha)) co_M_send ml_M_130 im_M_send se_M_send in_M rfl rfl hd_M_send ⟨by decide, by decide⟩ ⟨Nat.zero_le _, Nat.zero_le _⟩ hl.1 (Nat.le_of_ble_eq_true rfl) d_M_toLeave_95 rfl (fun H locs h => ?_)
        refine W.eq (g2 := F0 m 98 ls []) rfl ?_
        have h : zH dC dI k q X (m_send (u2 M 13 (Int32.toNatClampNeg a) ((M 13 (Int32.toNatClampNeg a)) &&& ((1 <<< (r &&& 31)) ^^^ (-1)))) 8 a 4 r r 0 0) (zA q) s.heap H locs := h
        exact z_retvE C h hr hk (by first | rfl | (simp only [m_M_toLeave, eq_true hh1, eq_false hh4, eq_false hh5, ↓reduceIte]; done) | (simp [m_M_toLeave, eq_true hh1, eq_false hh4, eq_false hh5]; done)) (by first | rfl | (simp only [m_M_toLeave, eq_true hh1, eq_false hh4, eq_false hh5, ↓reduceIte]; done) | (simp [m_M_toLeave, eq_true hh1, eq_false hh4, eq_false hh5]; done)) d_M_toLeave_98
      · skip
        refine lv_aload_n hx hb d_M_toLeave_71 rfl (lv_at hl 0 rfl) ?_
        refine g_M_50 C h d_M_toLeave_72 ?_
        refine lv_iload_n hx hb d_M_toLeave_75 rfl (lv_at hl 2 rfl) ?_
        refine l_M13 C h ha d_M_toLeave_76 ?_
        refine lv_if_ne (tgt := 87) hx hb d_M_toLeave_77 (by decide) (fun hh6 => ?_) (fun hh6 => ?_)
        · skip
          refine lv_aload_n hx hb d_M_toLeave_87 rfl (lv_at hl 0 rfl) ?_
          refine lv_bipush (v := 8) hx hb d_M_toLeave_88 (by decide) ?_
          refine lv_iload_n hx hb d_M_toLeave_90 rfl (lv_at hl 2 rfl) ?_
          refine lv_iconst (v := 4) hx hb d_M_toLeave_91 (by decide) ?_
          refine lv_iload_n hx hb d_M_toLeave_92 rfl (lv_at hl 3 rfl) ?_
          refine lv_iload_n hx hb d_M_toLeave_93 rfl (lv_at hl 3 rfl) ?_
          refine lv_iconst (v := 0) hx hb d_M_toLeave_94 (by decide) ?_
          refine z_callV (i := 37) C h (k_M_send l dC dI k q X (u2 M 13 (Int32.toNatClampNeg a) ((M 13 (Int32.toNatClampNeg a)) &&& ((1 <<< (r &&& 31)) ^^^ (-1)))) 8 a 4 r r 0 (z_room hn (by omega)) (vp4 hr4 ha)) co_M_send ml_M_130 im_M_send se_M_send in_M rfl rfl hd_M_send ⟨by decide, by decide⟩ ⟨Nat.zero_le _, Nat.zero_le _⟩ hl.1 (Nat.le_of_ble_eq_true rfl) d_M_toLeave_95 rfl (fun H locs h => ?_)
          refine W.eq (g2 := F0 m 98 ls []) rfl ?_
          have h : zH dC dI k q X (m_send (u2 M 13 (Int32.toNatClampNeg a) ((M 13 (Int32.toNatClampNeg a)) &&& ((1 <<< (r &&& 31)) ^^^ (-1)))) 8 a 4 r r 0 0) (zA q) s.heap H locs := h
          exact z_retvE C h hr hk (by first | rfl | (simp only [m_M_toLeave, eq_true hh1, eq_false hh4, eq_true hh5, eq_false hh6, ↓reduceIte]; done) | (simp [m_M_toLeave, eq_true hh1, eq_false hh4, eq_true hh5, eq_false hh6]; done)) (by first | rfl | (simp only [m_M_toLeave, eq_true hh1, eq_false hh4, eq_true hh5, eq_false hh6, ↓reduceIte]; done) | (simp [m_M_toLeave, eq_true hh1, eq_false hh4, eq_true hh5, eq_false hh6]; done)) d_M_toLeave_98
        · skip
          refine lv_aload_n hx hb d_M_toLeave_80 rfl (lv_at hl 0 rfl) ?_
          refine g_M_44 C h d_M_toLeave_81 ?_
          refine lv_iload_n hx hb d_M_toLeave_84 rfl (lv_at hl 2 rfl) ?_
          refine lv_iconst (v := 0) hx hb d_M_toLeave_85 (by decide) ?_
          refine s_M11 C h ha d_M_toLeave_86 (fun H locs h => ?_)
          refine lv_aload_n hx hb d_M_toLeave_87 rfl (lv_at hl 0 rfl) ?_
          refine lv_bipush (v := 8) hx hb d_M_toLeave_88 (by decide) ?_
          refine lv_iload_n hx hb d_M_toLeave_90 rfl (lv_at hl 2 rfl) ?_
          refine lv_iconst (v := 4) hx hb d_M_toLeave_91 (by decide) ?_
          refine lv_iload_n hx hb d_M_toLeave_92 rfl (lv_at hl 3 rfl) ?_
          refine lv_iload_n hx hb d_M_toLeave_93 rfl (lv_at hl 3 rfl) ?_
          refine lv_iconst (v := 0) hx hb d_M_toLeave_94 (by decide) ?_
          refine z_callV (i := 37) C h (k_M_send l dC dI k q X (u2 (u2 M 13 (Int32.toNatClampNeg a) ((M 13 (Int32.toNatClampNeg a)) &&& ((1 <<< (r &&& 31)) ^^^ (-1)))) 11 (Int32.toNatClampNeg a) 0) 8 a 4 r r 0 (z_room hn (by omega)) (vp4 hr4 ha)) co_M_send ml_M_130 im_M_send se_M_send in_M rfl rfl hd_M_send ⟨by decide, by decide⟩ ⟨Nat.zero_le _, Nat.zero_le _⟩ hl.1 (Nat.le_of_ble_eq_true rfl) d_M_toLeave_95 rfl (fun H locs h => ?_)
          refine W.eq (g2 := F0 m 98 ls []) rfl ?_
          have h : zH dC dI k q X (m_send (u2 (u2 M 13 (Int32.toNatClampNeg a) ((M 13 (Int32.toNatClampNeg a)) &&& ((1 <<< (r &&& 31)) ^^^ (-1)))) 11 (Int32.toNatClampNeg a) 0) 8 a 4 r r 0 0) (zA q) s.heap H locs := h
          exact z_retvE C h hr hk (by first | rfl | (simp only [m_M_toLeave, eq_true hh1, eq_false hh4, eq_true hh5, eq_true hh6, ↓reduceIte]; done) | (simp [m_M_toLeave, eq_true hh1, eq_false hh4, eq_true hh5, eq_true hh6]; done)) (by first | rfl | (simp only [m_M_toLeave, eq_true hh1, eq_false hh4, eq_true hh5, eq_true hh6, ↓reduceIte]; done) | (simp [m_M_toLeave, eq_true hh1, eq_false hh4, eq_true hh5, eq_true hh6]; done)) d_M_toLeave_98
    · skip
      refine lv_iload_n hx hb d_M_toLeave_20 rfl (lv_at hl 1 rfl) ?_
      refine lv_iconst (v := 4) hx hb d_M_toLeave_21 (by decide) ?_
      refine lv_icmp_ne (tgt := 33) hx hb d_M_toLeave_22 (by decide) (fun hh7 => ?_) (fun hh7 => ?_)
      · skip
        refine lv_aload_n hx hb d_M_toLeave_33 rfl (lv_at hl 0 rfl) ?_
        refine g_M_44 C h d_M_toLeave_34 ?_
        refine lv_iload_n hx hb d_M_toLeave_37 rfl (lv_at hl 2 rfl) ?_
        refine lv_iconst (v := 0) hx hb d_M_toLeave_38 (by decide) ?_
        refine s_M11 C h ha d_M_toLeave_39 (fun H locs h => ?_)
        refine lv_goto (tgt := 87) hx hb d_M_toLeave_40 (by decide) ?_
        refine lv_aload_n hx hb d_M_toLeave_87 rfl (lv_at hl 0 rfl) ?_
        refine lv_bipush (v := 8) hx hb d_M_toLeave_88 (by decide) ?_
        refine lv_iload_n hx hb d_M_toLeave_90 rfl (lv_at hl 2 rfl) ?_
        refine lv_iconst (v := 4) hx hb d_M_toLeave_91 (by decide) ?_
        refine lv_iload_n hx hb d_M_toLeave_92 rfl (lv_at hl 3 rfl) ?_
        refine lv_iload_n hx hb d_M_toLeave_93 rfl (lv_at hl 3 rfl) ?_
        refine lv_iconst (v := 0) hx hb d_M_toLeave_94 (by decide) ?_
        refine z_callV (i := 37) C h (k_M_send l dC dI k q X (u2 M 11 (Int32.toNatClampNeg a) 0) 8 a 4 r r 0 (z_room hn (by omega)) (vp4 hr4 ha)) co_M_send ml_M_130 im_M_send se_M_send in_M rfl rfl hd_M_send ⟨by decide, by decide⟩ ⟨Nat.zero_le _, Nat.zero_le _⟩ hl.1 (Nat.le_of_ble_eq_true rfl) d_M_toLeave_95 rfl (fun H locs h => ?_)
        refine W.eq (g2 := F0 m 98 ls []) rfl ?_
        have h : zH dC dI k q X (m_send (u2 M 11 (Int32.toNatClampNeg a) 0) 8 a 4 r r 0 0) (zA q) s.heap H locs := h
        exact z_retvE C h hr hk (by first | rfl | (simp only [m_M_toLeave, eq_true hh1, eq_true hh4, eq_false hh7, ↓reduceIte]; done) | (simp [m_M_toLeave, eq_true hh1, eq_true hh4, eq_false hh7]; done)) (by first | rfl | (simp only [m_M_toLeave, eq_true hh1, eq_true hh4, eq_false hh7, ↓reduceIte]; done) | (simp [m_M_toLeave, eq_true hh1, eq_true hh4, eq_false hh7]; done)) d_M_toLeave_98
      · skip
        refine lv_aload_n hx hb d_M_toLeave_25 rfl (lv_at hl 0 rfl) ?_
        refine g_M_53 C h d_M_toLeave_26 ?_
        refine lv_iload_n hx hb d_M_toLeave_29 rfl (lv_at hl 2 rfl) ?_
        refine lv_iload hx hb d_M_toLeave_30 (lv_at hl 4 rfl) ?_
        refine s_M14 C h ha d_M_toLeave_32 (fun H locs h => ?_)
        refine lv_aload_n hx hb d_M_toLeave_33 rfl (lv_at hl 0 rfl) ?_
        refine g_M_44 C h d_M_toLeave_34 ?_
        refine lv_iload_n hx hb d_M_toLeave_37 rfl (lv_at hl 2 rfl) ?_
        refine lv_iconst (v := 0) hx hb d_M_toLeave_38 (by decide) ?_
        refine s_M11 C h ha d_M_toLeave_39 (fun H locs h => ?_)
        refine lv_goto (tgt := 87) hx hb d_M_toLeave_40 (by decide) ?_
        refine lv_aload_n hx hb d_M_toLeave_87 rfl (lv_at hl 0 rfl) ?_
        refine lv_bipush (v := 8) hx hb d_M_toLeave_88 (by decide) ?_
        refine lv_iload_n hx hb d_M_toLeave_90 rfl (lv_at hl 2 rfl) ?_
        refine lv_iconst (v := 4) hx hb d_M_toLeave_91 (by decide) ?_
        refine lv_iload_n hx hb d_M_toLeave_92 rfl (lv_at hl 3 rfl) ?_
        refine lv_iload_n hx hb d_M_toLeave_93 rfl (lv_at hl 3 rfl) ?_
        refine lv_iconst (v := 0) hx hb d_M_toLeave_94 (by decide) ?_
        refine z_callV (i := 37) C h (k_M_send l dC dI k q X (u2 (u2 M 14 (Int32.toNatClampNeg a) v) 11 (Int32.toNatClampNeg a) 0) 8 a 4 r r 0 (z_room hn (by omega)) (vp4 hr4 ha)) co_M_send ml_M_130 im_M_send se_M_send in_M rfl rfl hd_M_send ⟨by decide, by decide⟩ ⟨Nat.zero_le _, Nat.zero_le _⟩ hl.1 (Nat.le_of_ble_eq_true rfl) d_M_toLeave_95 rfl (fun H locs h => ?_)
        refine W.eq (g2 := F0 m 98 ls []) rfl ?_
        have h : zH dC dI k q X (m_send (u2 (u2 M 14 (Int32.toNatClampNeg a) v) 11 (Int32.toNatClampNeg a) 0) 8 a 4 r r 0 0) (zA q) s.heap H locs := h
        exact z_retvE C h hr hk (by first | rfl | (simp only [m_M_toLeave, eq_true hh1, eq_true hh4, eq_true hh7, ↓reduceIte]; done) | (simp [m_M_toLeave, eq_true hh1, eq_true hh4, eq_true hh7]; done)) (by first | rfl | (simp only [m_M_toLeave, eq_true hh1, eq_true hh4, eq_true hh7, ↓reduceIte]; done) | (simp [m_M_toLeave, eq_true hh1, eq_true hh4, eq_true hh7]; done)) d_M_toLeave_98
end
section
def zRow (M : zMS) (n : Nat) : Prop := ∃ j, j ≤ n ∧ M 15 0 = nI j
theorem zRow.of {M : zMS} {n : Nat} (h : M 15 0 = nI n) : zRow M n := ⟨n, Nat.le_refl _, h⟩
theorem zRow.room {M : zMS} {n : Nat} (h : zRow M n) (hn : n < 200) : vp_in (M 15 0) 200 := by
  obtain ⟨j, h1, h2⟩ := h
  rw [h2]; exact vp_in_nI (by omega) (by omega)
theorem zRow.next {M : zMS} {n : Nat} {w a f t r k v : Int32} (h : zRow M n) : zRow (m_send M w a f t r k v) (n + 1) := by
  obtain ⟨j, h1, h2⟩ := h
  exact ⟨j + 1, by omega, nI_next h2⟩
theorem zRow.wk {M : zMS} {n k : Nat} (h : zRow M n) (hk : n ≤ k) : zRow M k := by
  obtain ⟨j, h1, h2⟩ := h
  exact ⟨j, by omega, h2⟩
theorem zRow.up {M : zMS} {n t i : Nat} {v : Int32} (ht : 15 ≠ t) (h : zRow M n) : zRow (u2 M t i v) n := by
  obtain ⟨j, h1, h2⟩ := h
  refine ⟨j, h1, ?_⟩
  show (if 15 = t then _ else M 15) 0 = _
  rw [if_neg ht]; exact h2
theorem zRow.ite {c : Prop} [Decidable c] {A B : zMS} {n : Nat} (hA : zRow A n) (hB : zRow B n) : zRow (if c then A else B) n := by
  split <;> assumption
theorem hd_M_toWrite : y_M_toWrite.cls ≠ "java/lang/invoke/MethodHandle" ∧ y_M_toWrite.cls ≠ "java/lang/invoke/VarHandle" ∧ (parseMethodDescriptor y_M_toWrite.desc).map (fun d => d.parameters.length) = some 2 := by decide +kernel
def jL3_M_toWrite_64_1 (X : zXS) (M : zMS) (a : Int32) (r : Int32) : Int32 := (if 0 = r then 0 else (if (((M 13 (Int32.toNatClampNeg a)) >>> (0 &&& 31)) &&& 1) = 1 then 1 else 0))
def jL3_M_toWrite_64_2 (X : zXS) (M : zMS) (a : Int32) (r : Int32) : Int32 := (if 1 = r then (jL3_M_toWrite_64_1 X M a r) else (if (((M 13 (Int32.toNatClampNeg a)) >>> (1 &&& 31)) &&& 1) = 1 then ((jL3_M_toWrite_64_1 X M a r) + 1) else (jL3_M_toWrite_64_1 X M a r)))
def jL3_M_toWrite_64_3 (X : zXS) (M : zMS) (a : Int32) (r : Int32) : Int32 := (if 2 = r then (jL3_M_toWrite_64_2 X M a r) else (if (((M 13 (Int32.toNatClampNeg a)) >>> (2 &&& 31)) &&& 1) = 1 then ((jL3_M_toWrite_64_2 X M a r) + 1) else (jL3_M_toWrite_64_2 X M a r)))
def jL3_M_toWrite_64_4 (X : zXS) (M : zMS) (a : Int32) (r : Int32) : Int32 := (if 3 = r then (jL3_M_toWrite_64_3 X M a r) else (if (((M 13 (Int32.toNatClampNeg a)) >>> (3 &&& 31)) &&& 1) = 1 then ((jL3_M_toWrite_64_3 X M a r) + 1) else (jL3_M_toWrite_64_3 X M a r)))
def jM_M_toWrite_129_1 (X : zXS) (M : zMS) (a : Int32) (r : Int32) : zMS := (if 0 = r then (m_send M 9 a 4 r r (jL3_M_toWrite_64_4 X M a r) (M 14 (Int32.toNatClampNeg a))) else (if ((((m_send M 9 a 4 r r (jL3_M_toWrite_64_4 X M a r) (M 14 (Int32.toNatClampNeg a))) 13 (Int32.toNatClampNeg a)) >>> (0 &&& 31)) &&& 1) = 1 then (m_send (m_send M 9 a 4 r r (jL3_M_toWrite_64_4 X M a r) (M 14 (Int32.toNatClampNeg a))) 7 a 4 0 r 0 0) else (m_send M 9 a 4 r r (jL3_M_toWrite_64_4 X M a r) (M 14 (Int32.toNatClampNeg a)))))
def jM_M_toWrite_129_2 (X : zXS) (M : zMS) (a : Int32) (r : Int32) : zMS := (if 1 = r then (jM_M_toWrite_129_1 X M a r) else (if ((((jM_M_toWrite_129_1 X M a r) 13 (Int32.toNatClampNeg a)) >>> (1 &&& 31)) &&& 1) = 1 then (m_send (jM_M_toWrite_129_1 X M a r) 7 a 4 1 r 0 0) else (jM_M_toWrite_129_1 X M a r)))
def jM_M_toWrite_129_3 (X : zXS) (M : zMS) (a : Int32) (r : Int32) : zMS := (if 2 = r then (jM_M_toWrite_129_2 X M a r) else (if ((((jM_M_toWrite_129_2 X M a r) 13 (Int32.toNatClampNeg a)) >>> (2 &&& 31)) &&& 1) = 1 then (m_send (jM_M_toWrite_129_2 X M a r) 7 a 4 2 r 0 0) else (jM_M_toWrite_129_2 X M a r)))
def jM_M_toWrite_129_4 (X : zXS) (M : zMS) (a : Int32) (r : Int32) : zMS := (if 3 = r then (jM_M_toWrite_129_3 X M a r) else (if ((((jM_M_toWrite_129_3 X M a r) 13 (Int32.toNatClampNeg a)) >>> (3 &&& 31)) &&& 1) = 1 then (m_send (jM_M_toWrite_129_3 X M a r) 7 a 4 3 r 0 0) else (jM_M_toWrite_129_3 X M a r)))
def m_M_toWrite (X : zXS) (M : zMS) (a : Int32) (r : Int32) : zMS := (if (M 11 (Int32.toNatClampNeg a)) = 2 then (u2 (u2 (m_send M 6 a 4 (M 12 (Int32.toNatClampNeg a)) r 0 0) 12 (Int32.toNatClampNeg a) r) 11 (Int32.toNatClampNeg a) 2) else (u2 (u2 (u2 (jM_M_toWrite_129_4 X M a r) 13 (Int32.toNatClampNeg a) 0) 12 (Int32.toNatClampNeg a) r) 11 (Int32.toNatClampNeg a) 2))
set_option maxHeartbeats 1000000 in
set_option maxRecDepth 100000 in
theorem k_M_toWrite (l : Launch) (dC : Nat → ClassId) (dI : Nat → Nat → Nat) (k : Nat → ClassId) (q : Nat → Nat) (X : zXS) (M : zMS) (a : Int32) (r : Int32)  (n : Nat) (hn : M 15 0 = nI n) (hb9 : n + 8 < 200) (ha : vp_in a 4) (hr4 : vp_in r 4) : zMet l dC dI k q y_M_toWrite c_M_toWrite 5 none 2 53 [.ref (q 37), .int a, .int r] none X M X (m_M_toWrite X M a r) := by
  refine zMet.of (by decide) (Nat.le_of_ble_eq_true rfl) ?_
  intro p e s m args below meth c ls C hr hk hl h
  have hx := C.1
  have hb := C.2.1
  have hl : lv_has ls 5 [(0, .ref (q 37)), (1, .int a), (2, .int r)] := hl
  refine lv_aload_n hx hb d_M_toWrite_0 rfl (lv_at hl 0 rfl) ?_
  refine g_M_44 C h d_M_toWrite_1 ?_
  refine lv_iload_n hx hb d_M_toWrite_4 rfl (lv_at hl 1 rfl) ?_
  refine l_M11 C h ha d_M_toWrite_5 ?_
  refine lv_iconst (v := 2) hx hb d_M_toWrite_6 (by decide) ?_
  refine lv_icmp_ne (tgt := 29) hx hb d_M_toWrite_7 (by decide) (fun hh1 => ?_) (fun hh1 => ?_)
  · skip
    refine lv_iconst (v := 0) hx hb d_M_toWrite_29 (by decide) ?_
    refine lv_istore_n hx hb d_M_toWrite_30 rfl hl (by decide) rfl (fun ls hl => ?_)
    have hl : lv_has ls 5 [(3, .int 0), (0, .ref (q 37)), (1, .int a), (2, .int r)] := hl
    refine lv_iconst (v := 0) hx hb d_M_toWrite_31 (by decide) ?_
    refine lv_istore hx hb d_M_toWrite_32 hl (by decide) rfl (fun ls hl => ?_)
    have hl : lv_has ls 5 [(4, .int 0), (3, .int 0), (0, .ref (q 37)), (1, .int a), (2, .int r)] := hl
    refine lv_iload hx hb d_M_toWrite_34 (lv_at hl 0 rfl) ?_
    refine lv_iconst (v := 4) hx hb d_M_toWrite_36 (by decide) ?_
    refine lv_icmp_ge (tgt := 70) hx hb d_M_toWrite_37 (by decide) (fun hh2 => absurd hh2 (by decide)) (fun _ => ?_)
    have J64_1 : ∀ (ls : Array Slot) (H : Heap) (locs : List Loc), lv_has ls 5 [(0, .ref (q 37)), (1, .int a), (2, .int r), (3, .int (jL3_M_toWrite_64_1 X M a r)), (4, .int 0)] → zH dC dI k q X M (zA q) s.heap H locs → W p l e { frames := 2, cells := 0, slots := 0, locals := 53 } s m args below meth c H locs 0 0 (MQ below (zQc dC dI k q X (m_M_toWrite X M a r) none) args s 0 0 (zA q)) (F0 m 64 ls []) := by
      intro ls H locs hl h
      refine lv_iinc (k := 4) (v := 1) hx hb d_M_toWrite_64 hl rfl (by decide) (by decide) rfl (fun ls hl => ?_)
      have hl : lv_has ls 5 [(4, .int 1), (0, .ref (q 37)), (1, .int a), (2, .int r), (3, .int (jL3_M_toWrite_64_1 X M a r))] := hl
      refine lv_goto (tgt := 34) hx hb d_M_toWrite_67 (by decide) ?_
      refine lv_iload hx hb d_M_toWrite_34 (lv_at hl 0 rfl) ?_
      refine lv_iconst (v := 4) hx hb d_M_toWrite_36 (by decide) ?_
      refine lv_icmp_ge (tgt := 70) hx hb d_M_toWrite_37 (by decide) (fun hh3 => absurd hh3 (by decide)) (fun _ => ?_)
      have J64_2 : ∀ (ls : Array Slot) (H : Heap) (locs : List Loc), lv_has ls 5 [(0, .ref (q 37)), (1, .int a), (2, .int r), (3, .int (jL3_M_toWrite_64_2 X M a r)), (4, .int 1)] → zH dC dI k q X M (zA q) s.heap H locs → W p l e { frames := 2, cells := 0, slots := 0, locals := 53 } s m args below meth c H locs 0 0 (MQ below (zQc dC dI k q X (m_M_toWrite X M a r) none) args s 0 0 (zA q)) (F0 m 64 ls []) := by
        intro ls H locs hl h
        refine lv_iinc (k := 4) (v := 2) hx hb d_M_toWrite_64 hl rfl (by decide) (by decide) rfl (fun ls hl => ?_)
        have hl : lv_has ls 5 [(4, .int 2), (0, .ref (q 37)), (1, .int a), (2, .int r), (3, .int (jL3_M_toWrite_64_2 X M a r))] := hl
        refine lv_goto (tgt := 34) hx hb d_M_toWrite_67 (by decide) ?_
        refine lv_iload hx hb d_M_toWrite_34 (lv_at hl 0 rfl) ?_
        refine lv_iconst (v := 4) hx hb d_M_toWrite_36 (by decide) ?_
        refine lv_icmp_ge (tgt := 70) hx hb d_M_toWrite_37 (by decide) (fun hh4 => absurd hh4 (by decide)) (fun _ => ?_)
        have J64_3 : ∀ (ls : Array Slot) (H : Heap) (locs : List Loc), lv_has ls 5 [(0, .ref (q 37)), (1, .int a), (2, .int r), (3, .int (jL3_M_toWrite_64_3 X M a r)), (4, .int 2)] → zH dC dI k q X M (zA q) s.heap H locs → W p l e { frames := 2, cells := 0, slots := 0, locals := 53 } s m args below meth c H locs 0 0 (MQ below (zQc dC dI k q X (m_M_toWrite X M a r) none) args s 0 0 (zA q)) (F0 m 64 ls []) := by
          intro ls H locs hl h
          refine lv_iinc (k := 4) (v := 3) hx hb d_M_toWrite_64 hl rfl (by decide) (by decide) rfl (fun ls hl => ?_)
          have hl : lv_has ls 5 [(4, .int 3), (0, .ref (q 37)), (1, .int a), (2, .int r), (3, .int (jL3_M_toWrite_64_3 X M a r))] := hl
          refine lv_goto (tgt := 34) hx hb d_M_toWrite_67 (by decide) ?_
          refine lv_iload hx hb d_M_toWrite_34 (lv_at hl 0 rfl) ?_
          refine lv_iconst (v := 4) hx hb d_M_toWrite_36 (by decide) ?_
          refine lv_icmp_ge (tgt := 70) hx hb d_M_toWrite_37 (by decide) (fun hh5 => absurd hh5 (by decide)) (fun _ => ?_)
          have J64_4 : ∀ (ls : Array Slot) (H : Heap) (locs : List Loc), lv_has ls 5 [(0, .ref (q 37)), (1, .int a), (2, .int r), (3, .int (jL3_M_toWrite_64_4 X M a r)), (4, .int 3)] → zH dC dI k q X M (zA q) s.heap H locs → W p l e { frames := 2, cells := 0, slots := 0, locals := 53 } s m args below meth c H locs 0 0 (MQ below (zQc dC dI k q X (m_M_toWrite X M a r) none) args s 0 0 (zA q)) (F0 m 64 ls []) := by
            intro ls H locs hl h
            refine lv_iinc (k := 4) (v := 4) hx hb d_M_toWrite_64 hl rfl (by decide) (by decide) rfl (fun ls hl => ?_)
            have hl : lv_has ls 5 [(4, .int 4), (0, .ref (q 37)), (1, .int a), (2, .int r), (3, .int (jL3_M_toWrite_64_4 X M a r))] := hl
            refine lv_goto (tgt := 34) hx hb d_M_toWrite_67 (by decide) ?_
            refine lv_iload hx hb d_M_toWrite_34 (lv_at hl 0 rfl) ?_
            refine lv_iconst (v := 4) hx hb d_M_toWrite_36 (by decide) ?_
            refine lv_icmp_ge (tgt := 70) hx hb d_M_toWrite_37 (by decide) (fun _ => ?_) (fun hh6 => absurd (by decide) hh6)
            refine lv_aload_n hx hb d_M_toWrite_70 rfl (lv_at hl 1 rfl) ?_
            refine lv_bipush (v := 9) hx hb d_M_toWrite_71 (by decide) ?_
            refine lv_iload_n hx hb d_M_toWrite_73 rfl (lv_at hl 2 rfl) ?_
            refine lv_iconst (v := 4) hx hb d_M_toWrite_74 (by decide) ?_
            refine lv_iload_n hx hb d_M_toWrite_75 rfl (lv_at hl 3 rfl) ?_
            refine lv_iload_n hx hb d_M_toWrite_76 rfl (lv_at hl 3 rfl) ?_
            refine lv_iload_n hx hb d_M_toWrite_77 rfl (lv_at hl 4 rfl) ?_
            refine lv_aload_n hx hb d_M_toWrite_78 rfl (lv_at hl 1 rfl) ?_
            refine g_M_53 C h d_M_toWrite_79 ?_
            refine lv_iload_n hx hb d_M_toWrite_82 rfl (lv_at hl 2 rfl) ?_
            refine l_M14 C h ha d_M_toWrite_83 ?_
            refine z_callV (i := 37) C h (k_M_sendWith l dC dI k q X M 9 a 4 r r (jL3_M_toWrite_64_4 X M a r) (M 14 (Int32.toNatClampNeg a)) (zRow.room (zRow.of hn) (by omega)) (vp4 hr4 ha)) co_M_sendWith ml_M_77 im_M_sendWith se_M_sendWith in_M rfl rfl hd_M_sendWith ⟨by decide, by decide⟩ ⟨Nat.zero_le _, Nat.zero_le _⟩ hl.1 (Nat.le_of_ble_eq_true rfl) d_M_toWrite_84 rfl (fun H locs h => ?_)
            refine W.eq (g2 := F0 m 87 ls []) rfl ?_
            have h : zH dC dI k q X (m_send M 9 a 4 r r (jL3_M_toWrite_64_4 X M a r) (M 14 (Int32.toNatClampNeg a))) (zA q) s.heap H locs := h
            refine lv_iconst (v := 0) hx hb d_M_toWrite_87 (by decide) ?_
            refine lv_istore hx hb d_M_toWrite_88 hl (by decide) rfl (fun ls hl => ?_)
            have hl : lv_has ls 5 [(4, .int 0), (0, .ref (q 37)), (1, .int a), (2, .int r), (3, .int (jL3_M_toWrite_64_4 X M a r))] := hl
            refine lv_iload hx hb d_M_toWrite_90 (lv_at hl 0 rfl) ?_
            refine lv_iconst (v := 4) hx hb d_M_toWrite_92 (by decide) ?_
            refine lv_icmp_ge (tgt := 135) hx hb d_M_toWrite_93 (by decide) (fun hh7 => absurd hh7 (by decide)) (fun _ => ?_)
            have J129_1 : ∀ (ls : Array Slot) (H : Heap) (locs : List Loc), lv_has ls 5 [(0, .ref (q 37)), (1, .int a), (2, .int r), (3, .int (jL3_M_toWrite_64_4 X M a r)), (4, .int 0)] → zH dC dI k q X (jM_M_toWrite_129_1 X M a r) (zA q) s.heap H locs → W p l e { frames := 2, cells := 0, slots := 0, locals := 53 } s m args below meth c H locs 0 0 (MQ below (zQc dC dI k q X (m_M_toWrite X M a r) none) args s 0 0 (zA q)) (F0 m 129 ls []) := by
              intro ls H locs hl h
              have hqjM_M_toWrite_129_1 : zRow (jM_M_toWrite_129_1 X M a r) (n + 2) := (zRow.ite (zRow.wk (zRow.next (zRow.of hn)) (by omega)) (zRow.ite (zRow.wk (zRow.next (zRow.next (zRow.of hn))) (by omega)) (zRow.wk (zRow.next (zRow.of hn)) (by omega))))
              refine lv_iinc (k := 4) (v := 1) hx hb d_M_toWrite_129 hl rfl (by decide) (by decide) rfl (fun ls hl => ?_)
              have hl : lv_has ls 5 [(4, .int 1), (0, .ref (q 37)), (1, .int a), (2, .int r), (3, .int (jL3_M_toWrite_64_4 X M a r))] := hl
              refine lv_goto (tgt := 90) hx hb d_M_toWrite_132 (by decide) ?_
              refine lv_iload hx hb d_M_toWrite_90 (lv_at hl 0 rfl) ?_
              refine lv_iconst (v := 4) hx hb d_M_toWrite_92 (by decide) ?_
              refine lv_icmp_ge (tgt := 135) hx hb d_M_toWrite_93 (by decide) (fun hh8 => absurd hh8 (by decide)) (fun _ => ?_)
              have J129_2 : ∀ (ls : Array Slot) (H : Heap) (locs : List Loc), lv_has ls 5 [(0, .ref (q 37)), (1, .int a), (2, .int r), (3, .int (jL3_M_toWrite_64_4 X M a r)), (4, .int 1)] → zH dC dI k q X (jM_M_toWrite_129_2 X M a r) (zA q) s.heap H locs → W p l e { frames := 2, cells := 0, slots := 0, locals := 53 } s m args below meth c H locs 0 0 (MQ below (zQc dC dI k q X (m_M_toWrite X M a r) none) args s 0 0 (zA q)) (F0 m 129 ls []) := by
                intro ls H locs hl h
                have hqjM_M_toWrite_129_2 : zRow (jM_M_toWrite_129_2 X M a r) (n + 3) := (zRow.ite (zRow.wk hqjM_M_toWrite_129_1 (by omega)) (zRow.ite (zRow.wk (zRow.next hqjM_M_toWrite_129_1) (by omega)) (zRow.wk hqjM_M_toWrite_129_1 (by omega))))
                refine lv_iinc (k := 4) (v := 2) hx hb d_M_toWrite_129 hl rfl (by decide) (by decide) rfl (fun ls hl => ?_)
                have hl : lv_has ls 5 [(4, .int 2), (0, .ref (q 37)), (1, .int a), (2, .int r), (3, .int (jL3_M_toWrite_64_4 X M a r))] := hl
                refine lv_goto (tgt := 90) hx hb d_M_toWrite_132 (by decide) ?_
                refine lv_iload hx hb d_M_toWrite_90 (lv_at hl 0 rfl) ?_
                refine lv_iconst (v := 4) hx hb d_M_toWrite_92 (by decide) ?_
                refine lv_icmp_ge (tgt := 135) hx hb d_M_toWrite_93 (by decide) (fun hh9 => absurd hh9 (by decide)) (fun _ => ?_)
                have J129_3 : ∀ (ls : Array Slot) (H : Heap) (locs : List Loc), lv_has ls 5 [(0, .ref (q 37)), (1, .int a), (2, .int r), (3, .int (jL3_M_toWrite_64_4 X M a r)), (4, .int 2)] → zH dC dI k q X (jM_M_toWrite_129_3 X M a r) (zA q) s.heap H locs → W p l e { frames := 2, cells := 0, slots := 0, locals := 53 } s m args below meth c H locs 0 0 (MQ below (zQc dC dI k q X (m_M_toWrite X M a r) none) args s 0 0 (zA q)) (F0 m 129 ls []) := by
                  intro ls H locs hl h
                  have hqjM_M_toWrite_129_3 : zRow (jM_M_toWrite_129_3 X M a r) (n + 4) := (zRow.ite (zRow.wk hqjM_M_toWrite_129_2 (by omega)) (zRow.ite (zRow.wk (zRow.next hqjM_M_toWrite_129_2) (by omega)) (zRow.wk hqjM_M_toWrite_129_2 (by omega))))
                  refine lv_iinc (k := 4) (v := 3) hx hb d_M_toWrite_129 hl rfl (by decide) (by decide) rfl (fun ls hl => ?_)
                  have hl : lv_has ls 5 [(4, .int 3), (0, .ref (q 37)), (1, .int a), (2, .int r), (3, .int (jL3_M_toWrite_64_4 X M a r))] := hl
                  refine lv_goto (tgt := 90) hx hb d_M_toWrite_132 (by decide) ?_
                  refine lv_iload hx hb d_M_toWrite_90 (lv_at hl 0 rfl) ?_
                  refine lv_iconst (v := 4) hx hb d_M_toWrite_92 (by decide) ?_
                  refine lv_icmp_ge (tgt := 135) hx hb d_M_toWrite_93 (by decide) (fun hh10 => absurd hh10 (by decide)) (fun _ => ?_)
                  have J129_4 : ∀ (ls : Array Slot) (H : Heap) (locs : List Loc), lv_has ls 5 [(0, .ref (q 37)), (1, .int a), (2, .int r), (3, .int (jL3_M_toWrite_64_4 X M a r)), (4, .int 3)] → zH dC dI k q X (jM_M_toWrite_129_4 X M a r) (zA q) s.heap H locs → W p l e { frames := 2, cells := 0, slots := 0, locals := 53 } s m args below meth c H locs 0 0 (MQ below (zQc dC dI k q X (m_M_toWrite X M a r) none) args s 0 0 (zA q)) (F0 m 129 ls []) := by
                    intro ls H locs hl h
                    have hqjM_M_toWrite_129_4 : zRow (jM_M_toWrite_129_4 X M a r) (n + 5) := (zRow.ite (zRow.wk hqjM_M_toWrite_129_3 (by omega)) (zRow.ite (zRow.wk (zRow.next hqjM_M_toWrite_129_3) (by omega)) (zRow.wk hqjM_M_toWrite_129_3 (by omega))))
                    refine lv_iinc (k := 4) (v := 4) hx hb d_M_toWrite_129 hl rfl (by decide) (by decide) rfl (fun ls hl => ?_)
                    have hl : lv_has ls 5 [(4, .int 4), (0, .ref (q 37)), (1, .int a), (2, .int r), (3, .int (jL3_M_toWrite_64_4 X M a r))] := hl
                    refine lv_goto (tgt := 90) hx hb d_M_toWrite_132 (by decide) ?_
                    refine lv_iload hx hb d_M_toWrite_90 (lv_at hl 0 rfl) ?_
                    refine lv_iconst (v := 4) hx hb d_M_toWrite_92 (by decide) ?_
                    refine lv_icmp_ge (tgt := 135) hx hb d_M_toWrite_93 (by decide) (fun _ => ?_) (fun hh11 => absurd (by decide) hh11)
                    refine lv_aload_n hx hb d_M_toWrite_135 rfl (lv_at hl 1 rfl) ?_
                    refine g_M_50 C h d_M_toWrite_136 ?_
                    refine lv_iload_n hx hb d_M_toWrite_139 rfl (lv_at hl 2 rfl) ?_
                    refine lv_iconst (v := 0) hx hb d_M_toWrite_140 (by decide) ?_
                    refine s_M13 C h ha d_M_toWrite_141 (fun H locs h => ?_)
                    refine lv_aload_n hx hb d_M_toWrite_142 rfl (lv_at hl 1 rfl) ?_
                    refine g_M_47 C h d_M_toWrite_143 ?_
                    refine lv_iload_n hx hb d_M_toWrite_146 rfl (lv_at hl 2 rfl) ?_
                    refine lv_iload_n hx hb d_M_toWrite_147 rfl (lv_at hl 3 rfl) ?_
                    refine s_M12 C h ha d_M_toWrite_148 (fun H locs h => ?_)
                    refine lv_aload_n hx hb d_M_toWrite_149 rfl (lv_at hl 1 rfl) ?_
                    refine g_M_44 C h d_M_toWrite_150 ?_
                    refine lv_iload_n hx hb d_M_toWrite_153 rfl (lv_at hl 2 rfl) ?_
                    refine lv_iconst (v := 2) hx hb d_M_toWrite_154 (by decide) ?_
                    refine s_M11 C h ha d_M_toWrite_155 (fun H locs h => ?_)
                    exact z_retvE C h hr hk (by first | rfl | (simp only [m_M_toWrite, eq_false hh1, ↓reduceIte]; done) | (simp [m_M_toWrite, eq_false hh1]; done)) (by first | rfl | (simp only [m_M_toWrite, eq_false hh1, ↓reduceIte]; done) | (simp [m_M_toWrite, eq_false hh1]; done)) d_M_toWrite_156
                  refine lv_iload hx hb d_M_toWrite_96 (lv_at hl 0 rfl) ?_
                  refine lv_iload_n hx hb d_M_toWrite_98 rfl (lv_at hl 3 rfl) ?_
                  refine lv_icmp_eq (tgt := 129) hx hb d_M_toWrite_99 (by decide) (fun hh12 => ?_) (fun hh12 => ?_)
                  · skip
                    exact J129_4 _ _ _ (lv_sub hl [1, 2, 3, 4, 0] rfl) (by rw [show (jM_M_toWrite_129_4 X M a r) = (jM_M_toWrite_129_3 X M a r) from (by first | (simp only [jM_M_toWrite_129_4, eq_false hh1, eq_true hh12, ↓reduceIte]; done) | (simp [jM_M_toWrite_129_4, eq_false hh1, eq_true hh12]; done))]; exact h)
                  · skip
                    refine lv_aload_n hx hb d_M_toWrite_102 rfl (lv_at hl 1 rfl) ?_
                    refine g_M_50 C h d_M_toWrite_103 ?_
                    refine lv_iload_n hx hb d_M_toWrite_106 rfl (lv_at hl 2 rfl) ?_
                    refine l_M13 C h ha d_M_toWrite_107 ?_
                    refine lv_iload hx hb d_M_toWrite_108 (lv_at hl 0 rfl) ?_
                    refine lv_ishr hx hb d_M_toWrite_110 ?_
                    refine lv_iconst (v := 1) hx hb d_M_toWrite_111 (by decide) ?_
                    refine lv_iand hx hb d_M_toWrite_112 ?_
                    refine lv_iconst (v := 1) hx hb d_M_toWrite_113 (by decide) ?_
                    refine lv_icmp_ne (tgt := 129) hx hb d_M_toWrite_114 (by decide) (fun hh13 => ?_) (fun hh13 => ?_)
                    · skip
                      exact J129_4 _ _ _ (lv_sub hl [1, 2, 3, 4, 0] rfl) (by rw [show (jM_M_toWrite_129_4 X M a r) = (jM_M_toWrite_129_3 X M a r) from (by first | (simp only [jM_M_toWrite_129_4, eq_false hh1, eq_false hh12, eq_false hh13, ↓reduceIte]; done) | (simp [jM_M_toWrite_129_4, eq_false hh1, eq_false hh12, eq_false hh13]; done))]; exact h)
                    · skip
                      refine lv_aload_n hx hb d_M_toWrite_117 rfl (lv_at hl 1 rfl) ?_
                      refine lv_bipush (v := 7) hx hb d_M_toWrite_118 (by decide) ?_
                      refine lv_iload_n hx hb d_M_toWrite_120 rfl (lv_at hl 2 rfl) ?_
                      refine lv_iconst (v := 4) hx hb d_M_toWrite_121 (by decide) ?_
                      refine lv_iload hx hb d_M_toWrite_122 (lv_at hl 0 rfl) ?_
                      refine lv_iload_n hx hb d_M_toWrite_124 rfl (lv_at hl 3 rfl) ?_
                      refine lv_iconst (v := 0) hx hb d_M_toWrite_125 (by decide) ?_
                      refine z_callV (i := 37) C h (k_M_send l dC dI k q X (jM_M_toWrite_129_3 X M a r) 7 a 4 3 r 0 (zRow.room hqjM_M_toWrite_129_3 (by omega)) (vp4 hr4 ha)) co_M_send ml_M_130 im_M_send se_M_send in_M rfl rfl hd_M_send ⟨by decide, by decide⟩ ⟨Nat.zero_le _, Nat.zero_le _⟩ hl.1 (Nat.le_of_ble_eq_true rfl) d_M_toWrite_126 rfl (fun H locs h => ?_)
                      refine W.eq (g2 := F0 m 129 ls []) rfl ?_
                      have h : zH dC dI k q X (m_send (jM_M_toWrite_129_3 X M a r) 7 a 4 3 r 0 0) (zA q) s.heap H locs := h
                      exact J129_4 _ _ _ (lv_sub hl [1, 2, 3, 4, 0] rfl) (by rw [show (jM_M_toWrite_129_4 X M a r) = (m_send (jM_M_toWrite_129_3 X M a r) 7 a 4 3 r 0 0) from (by first | (simp only [jM_M_toWrite_129_4, eq_false hh1, eq_false hh12, eq_true hh13, ↓reduceIte]; done) | (simp [jM_M_toWrite_129_4, eq_false hh1, eq_false hh12, eq_true hh13]; done))]; exact h)
                refine lv_iload hx hb d_M_toWrite_96 (lv_at hl 0 rfl) ?_
                refine lv_iload_n hx hb d_M_toWrite_98 rfl (lv_at hl 3 rfl) ?_
                refine lv_icmp_eq (tgt := 129) hx hb d_M_toWrite_99 (by decide) (fun hh14 => ?_) (fun hh14 => ?_)
                · skip
                  exact J129_3 _ _ _ (lv_sub hl [1, 2, 3, 4, 0] rfl) (by rw [show (jM_M_toWrite_129_3 X M a r) = (jM_M_toWrite_129_2 X M a r) from (by first | (simp only [jM_M_toWrite_129_3, eq_false hh1, eq_true hh14, ↓reduceIte]; done) | (simp [jM_M_toWrite_129_3, eq_false hh1, eq_true hh14]; done))]; exact h)
                · skip
                  refine lv_aload_n hx hb d_M_toWrite_102 rfl (lv_at hl 1 rfl) ?_
                  refine g_M_50 C h d_M_toWrite_103 ?_
                  refine lv_iload_n hx hb d_M_toWrite_106 rfl (lv_at hl 2 rfl) ?_
                  refine l_M13 C h ha d_M_toWrite_107 ?_
                  refine lv_iload hx hb d_M_toWrite_108 (lv_at hl 0 rfl) ?_
                  refine lv_ishr hx hb d_M_toWrite_110 ?_
                  refine lv_iconst (v := 1) hx hb d_M_toWrite_111 (by decide) ?_
                  refine lv_iand hx hb d_M_toWrite_112 ?_
                  refine lv_iconst (v := 1) hx hb d_M_toWrite_113 (by decide) ?_
                  refine lv_icmp_ne (tgt := 129) hx hb d_M_toWrite_114 (by decide) (fun hh15 => ?_) (fun hh15 => ?_)
                  · skip
                    exact J129_3 _ _ _ (lv_sub hl [1, 2, 3, 4, 0] rfl) (by rw [show (jM_M_toWrite_129_3 X M a r) = (jM_M_toWrite_129_2 X M a r) from (by first | (simp only [jM_M_toWrite_129_3, eq_false hh1, eq_false hh14, eq_false hh15, ↓reduceIte]; done) | (simp [jM_M_toWrite_129_3, eq_false hh1, eq_false hh14, eq_false hh15]; done))]; exact h)
                  · skip
                    refine lv_aload_n hx hb d_M_toWrite_117 rfl (lv_at hl 1 rfl) ?_
                    refine lv_bipush (v := 7) hx hb d_M_toWrite_118 (by decide) ?_
                    refine lv_iload_n hx hb d_M_toWrite_120 rfl (lv_at hl 2 rfl) ?_
                    refine lv_iconst (v := 4) hx hb d_M_toWrite_121 (by decide) ?_
                    refine lv_iload hx hb d_M_toWrite_122 (lv_at hl 0 rfl) ?_
                    refine lv_iload_n hx hb d_M_toWrite_124 rfl (lv_at hl 3 rfl) ?_
                    refine lv_iconst (v := 0) hx hb d_M_toWrite_125 (by decide) ?_
                    refine z_callV (i := 37) C h (k_M_send l dC dI k q X (jM_M_toWrite_129_2 X M a r) 7 a 4 2 r 0 (zRow.room hqjM_M_toWrite_129_2 (by omega)) (vp4 hr4 ha)) co_M_send ml_M_130 im_M_send se_M_send in_M rfl rfl hd_M_send ⟨by decide, by decide⟩ ⟨Nat.zero_le _, Nat.zero_le _⟩ hl.1 (Nat.le_of_ble_eq_true rfl) d_M_toWrite_126 rfl (fun H locs h => ?_)
                    refine W.eq (g2 := F0 m 129 ls []) rfl ?_
                    have h : zH dC dI k q X (m_send (jM_M_toWrite_129_2 X M a r) 7 a 4 2 r 0 0) (zA q) s.heap H locs := h
                    exact J129_3 _ _ _ (lv_sub hl [1, 2, 3, 4, 0] rfl) (by rw [show (jM_M_toWrite_129_3 X M a r) = (m_send (jM_M_toWrite_129_2 X M a r) 7 a 4 2 r 0 0) from (by first | (simp only [jM_M_toWrite_129_3, eq_false hh1, eq_false hh14, eq_true hh15, ↓reduceIte]; done) | (simp [jM_M_toWrite_129_3, eq_false hh1, eq_false hh14, eq_true hh15]; done))]; exact h)
              refine lv_iload hx hb d_M_toWrite_96 (lv_at hl 0 rfl) ?_
              refine lv_iload_n hx hb d_M_toWrite_98 rfl (lv_at hl 3 rfl) ?_
              refine lv_icmp_eq (tgt := 129) hx hb d_M_toWrite_99 (by decide) (fun hh16 => ?_) (fun hh16 => ?_)
              · skip
                exact J129_2 _ _ _ (lv_sub hl [1, 2, 3, 4, 0] rfl) (by rw [show (jM_M_toWrite_129_2 X M a r) = (jM_M_toWrite_129_1 X M a r) from (by first | (simp only [jM_M_toWrite_129_2, eq_false hh1, eq_true hh16, ↓reduceIte]; done) | (simp [jM_M_toWrite_129_2, eq_false hh1, eq_true hh16]; done))]; exact h)
              · skip
                refine lv_aload_n hx hb d_M_toWrite_102 rfl (lv_at hl 1 rfl) ?_
                refine g_M_50 C h d_M_toWrite_103 ?_
                refine lv_iload_n hx hb d_M_toWrite_106 rfl (lv_at hl 2 rfl) ?_
                refine l_M13 C h ha d_M_toWrite_107 ?_
                refine lv_iload hx hb d_M_toWrite_108 (lv_at hl 0 rfl) ?_
                refine lv_ishr hx hb d_M_toWrite_110 ?_
                refine lv_iconst (v := 1) hx hb d_M_toWrite_111 (by decide) ?_
                refine lv_iand hx hb d_M_toWrite_112 ?_
                refine lv_iconst (v := 1) hx hb d_M_toWrite_113 (by decide) ?_
                refine lv_icmp_ne (tgt := 129) hx hb d_M_toWrite_114 (by decide) (fun hh17 => ?_) (fun hh17 => ?_)
                · skip
                  exact J129_2 _ _ _ (lv_sub hl [1, 2, 3, 4, 0] rfl) (by rw [show (jM_M_toWrite_129_2 X M a r) = (jM_M_toWrite_129_1 X M a r) from (by first | (simp only [jM_M_toWrite_129_2, eq_false hh1, eq_false hh16, eq_false hh17, ↓reduceIte]; done) | (simp [jM_M_toWrite_129_2, eq_false hh1, eq_false hh16, eq_false hh17]; done))]; exact h)
                · skip
                  refine lv_aload_n hx hb d_M_toWrite_117 rfl (lv_at hl 1 rfl) ?_
                  refine lv_bipush (v := 7) hx hb d_M_toWrite_118 (by decide) ?_
                  refine lv_iload_n hx hb d_M_toWrite_120 rfl (lv_at hl 2 rfl) ?_
                  refine lv_iconst (v := 4) hx hb d_M_toWrite_121 (by decide) ?_
                  refine lv_iload hx hb d_M_toWrite_122 (lv_at hl 0 rfl) ?_
                  refine lv_iload_n hx hb d_M_toWrite_124 rfl (lv_at hl 3 rfl) ?_
                  refine lv_iconst (v := 0) hx hb d_M_toWrite_125 (by decide) ?_
                  refine z_callV (i := 37) C h (k_M_send l dC dI k q X (jM_M_toWrite_129_1 X M a r) 7 a 4 1 r 0 (zRow.room hqjM_M_toWrite_129_1 (by omega)) (vp4 hr4 ha)) co_M_send ml_M_130 im_M_send se_M_send in_M rfl rfl hd_M_send ⟨by decide, by decide⟩ ⟨Nat.zero_le _, Nat.zero_le _⟩ hl.1 (Nat.le_of_ble_eq_true rfl) d_M_toWrite_126 rfl (fun H locs h => ?_)
                  refine W.eq (g2 := F0 m 129 ls []) rfl ?_
                  have h : zH dC dI k q X (m_send (jM_M_toWrite_129_1 X M a r) 7 a 4 1 r 0 0) (zA q) s.heap H locs := h
                  exact J129_2 _ _ _ (lv_sub hl [1, 2, 3, 4, 0] rfl) (by rw [show (jM_M_toWrite_129_2 X M a r) = (m_send (jM_M_toWrite_129_1 X M a r) 7 a 4 1 r 0 0) from (by first | (simp only [jM_M_toWrite_129_2, eq_false hh1, eq_false hh16, eq_true hh17, ↓reduceIte]; done) | (simp [jM_M_toWrite_129_2, eq_false hh1, eq_false hh16, eq_true hh17]; done))]; exact h)
            refine lv_iload hx hb d_M_toWrite_96 (lv_at hl 0 rfl) ?_
            refine lv_iload_n hx hb d_M_toWrite_98 rfl (lv_at hl 3 rfl) ?_
            refine lv_icmp_eq (tgt := 129) hx hb d_M_toWrite_99 (by decide) (fun hh18 => ?_) (fun hh18 => ?_)
            · skip
              exact J129_1 _ _ _ (lv_sub hl [1, 2, 3, 4, 0] rfl) (by rw [show (jM_M_toWrite_129_1 X M a r) = (m_send M 9 a 4 r r (jL3_M_toWrite_64_4 X M a r) (M 14 (Int32.toNatClampNeg a))) from (by first | (simp only [jM_M_toWrite_129_1, eq_false hh1, eq_true hh18, ↓reduceIte]; done) | (simp [jM_M_toWrite_129_1, eq_false hh1, eq_true hh18]; done))]; exact h)
            · skip
              refine lv_aload_n hx hb d_M_toWrite_102 rfl (lv_at hl 1 rfl) ?_
              refine g_M_50 C h d_M_toWrite_103 ?_
              refine lv_iload_n hx hb d_M_toWrite_106 rfl (lv_at hl 2 rfl) ?_
              refine l_M13 C h ha d_M_toWrite_107 ?_
              refine lv_iload hx hb d_M_toWrite_108 (lv_at hl 0 rfl) ?_
              refine lv_ishr hx hb d_M_toWrite_110 ?_
              refine lv_iconst (v := 1) hx hb d_M_toWrite_111 (by decide) ?_
              refine lv_iand hx hb d_M_toWrite_112 ?_
              refine lv_iconst (v := 1) hx hb d_M_toWrite_113 (by decide) ?_
              refine lv_icmp_ne (tgt := 129) hx hb d_M_toWrite_114 (by decide) (fun hh19 => ?_) (fun hh19 => ?_)
              · skip
                exact J129_1 _ _ _ (lv_sub hl [1, 2, 3, 4, 0] rfl) (by rw [show (jM_M_toWrite_129_1 X M a r) = (m_send M 9 a 4 r r (jL3_M_toWrite_64_4 X M a r) (M 14 (Int32.toNatClampNeg a))) from (by first | (simp only [jM_M_toWrite_129_1, eq_false hh1, eq_false hh18, eq_false hh19, ↓reduceIte]; done) | (simp [jM_M_toWrite_129_1, eq_false hh1, eq_false hh18, eq_false hh19]; done))]; exact h)
              · skip
                refine lv_aload_n hx hb d_M_toWrite_117 rfl (lv_at hl 1 rfl) ?_
                refine lv_bipush (v := 7) hx hb d_M_toWrite_118 (by decide) ?_
                refine lv_iload_n hx hb d_M_toWrite_120 rfl (lv_at hl 2 rfl) ?_
                refine lv_iconst (v := 4) hx hb d_M_toWrite_121 (by decide) ?_
                refine lv_iload hx hb d_M_toWrite_122 (lv_at hl 0 rfl) ?_
                refine lv_iload_n hx hb d_M_toWrite_124 rfl (lv_at hl 3 rfl) ?_
                refine lv_iconst (v := 0) hx hb d_M_toWrite_125 (by decide) ?_
                refine z_callV (i := 37) C h (k_M_send l dC dI k q X (m_send M 9 a 4 r r (jL3_M_toWrite_64_4 X M a r) (M 14 (Int32.toNatClampNeg a))) 7 a 4 0 r 0 (zRow.room (zRow.next (zRow.of hn)) (by omega)) (vp4 hr4 ha)) co_M_send ml_M_130 im_M_send se_M_send in_M rfl rfl hd_M_send ⟨by decide, by decide⟩ ⟨Nat.zero_le _, Nat.zero_le _⟩ hl.1 (Nat.le_of_ble_eq_true rfl) d_M_toWrite_126 rfl (fun H locs h => ?_)
                refine W.eq (g2 := F0 m 129 ls []) rfl ?_
                have h : zH dC dI k q X (m_send (m_send M 9 a 4 r r (jL3_M_toWrite_64_4 X M a r) (M 14 (Int32.toNatClampNeg a))) 7 a 4 0 r 0 0) (zA q) s.heap H locs := h
                exact J129_1 _ _ _ (lv_sub hl [1, 2, 3, 4, 0] rfl) (by rw [show (jM_M_toWrite_129_1 X M a r) = (m_send (m_send M 9 a 4 r r (jL3_M_toWrite_64_4 X M a r) (M 14 (Int32.toNatClampNeg a))) 7 a 4 0 r 0 0) from (by first | (simp only [jM_M_toWrite_129_1, eq_false hh1, eq_false hh18, eq_true hh19, ↓reduceIte]; done) | (simp [jM_M_toWrite_129_1, eq_false hh1, eq_false hh18, eq_true hh19]; done))]; exact h)
          refine lv_iload hx hb d_M_toWrite_40 (lv_at hl 0 rfl) ?_
          refine lv_iload_n hx hb d_M_toWrite_42 rfl (lv_at hl 3 rfl) ?_
          refine lv_icmp_eq (tgt := 64) hx hb d_M_toWrite_43 (by decide) (fun hh20 => ?_) (fun hh20 => ?_)
          · skip
            exact J64_4 _ _ _ (by have hl := lv_sub hl [1, 2, 3, 4, 0] rfl; rw [show (jL3_M_toWrite_64_4 X M a r) = (jL3_M_toWrite_64_3 X M a r) from (by first | (simp only [jL3_M_toWrite_64_4, eq_false hh1, eq_true hh20, ↓reduceIte]; done) | (simp [jL3_M_toWrite_64_4, eq_false hh1, eq_true hh20]; done))]; exact hl) h
          · skip
            refine lv_aload_n hx hb d_M_toWrite_46 rfl (lv_at hl 1 rfl) ?_
            refine g_M_50 C h d_M_toWrite_47 ?_
            refine lv_iload_n hx hb d_M_toWrite_50 rfl (lv_at hl 2 rfl) ?_
            refine l_M13 C h ha d_M_toWrite_51 ?_
            refine lv_iload hx hb d_M_toWrite_52 (lv_at hl 0 rfl) ?_
            refine lv_ishr hx hb d_M_toWrite_54 ?_
            refine lv_iconst (v := 1) hx hb d_M_toWrite_55 (by decide) ?_
            refine lv_iand hx hb d_M_toWrite_56 ?_
            refine lv_iconst (v := 1) hx hb d_M_toWrite_57 (by decide) ?_
            refine lv_icmp_ne (tgt := 64) hx hb d_M_toWrite_58 (by decide) (fun hh21 => ?_) (fun hh21 => ?_)
            · skip
              exact J64_4 _ _ _ (by have hl := lv_sub hl [1, 2, 3, 4, 0] rfl; rw [show (jL3_M_toWrite_64_4 X M a r) = (jL3_M_toWrite_64_3 X M a r) from (by first | (simp only [jL3_M_toWrite_64_4, eq_false hh1, eq_false hh20, eq_false hh21, ↓reduceIte]; done) | (simp [jL3_M_toWrite_64_4, eq_false hh1, eq_false hh20, eq_false hh21]; done))]; exact hl) h
            · skip
              refine lv_iinc (k := 4) (v := ((jL3_M_toWrite_64_3 X M a r) + 1)) hx hb d_M_toWrite_61 hl rfl rfl (by decide) rfl (fun ls hl => ?_)
              have hl : lv_has ls 5 [(3, .int ((jL3_M_toWrite_64_3 X M a r) + 1)), (4, .int 3), (0, .ref (q 37)), (1, .int a), (2, .int r)] := hl
              exact J64_4 _ _ _ (by have hl := lv_sub hl [2, 3, 4, 0, 1] rfl; rw [show (jL3_M_toWrite_64_4 X M a r) = ((jL3_M_toWrite_64_3 X M a r) + 1) from (by first | (simp only [jL3_M_toWrite_64_4, eq_false hh1, eq_false hh20, eq_true hh21, ↓reduceIte]; done) | (simp [jL3_M_toWrite_64_4, eq_false hh1, eq_false hh20, eq_true hh21]; done))]; exact hl) h
        refine lv_iload hx hb d_M_toWrite_40 (lv_at hl 0 rfl) ?_
        refine lv_iload_n hx hb d_M_toWrite_42 rfl (lv_at hl 3 rfl) ?_
        refine lv_icmp_eq (tgt := 64) hx hb d_M_toWrite_43 (by decide) (fun hh22 => ?_) (fun hh22 => ?_)
        · skip
          exact J64_3 _ _ _ (by have hl := lv_sub hl [1, 2, 3, 4, 0] rfl; rw [show (jL3_M_toWrite_64_3 X M a r) = (jL3_M_toWrite_64_2 X M a r) from (by first | (simp only [jL3_M_toWrite_64_3, eq_false hh1, eq_true hh22, ↓reduceIte]; done) | (simp [jL3_M_toWrite_64_3, eq_false hh1, eq_true hh22]; done))]; exact hl) h
        · skip
          refine lv_aload_n hx hb d_M_toWrite_46 rfl (lv_at hl 1 rfl) ?_
          refine g_M_50 C h d_M_toWrite_47 ?_
          refine lv_iload_n hx hb d_M_toWrite_50 rfl (lv_at hl 2 rfl) ?_
          refine l_M13 C h ha d_M_toWrite_51 ?_
          refine lv_iload hx hb d_M_toWrite_52 (lv_at hl 0 rfl) ?_
          refine lv_ishr hx hb d_M_toWrite_54 ?_
          refine lv_iconst (v := 1) hx hb d_M_toWrite_55 (by decide) ?_
          refine lv_iand hx hb d_M_toWrite_56 ?_
          refine lv_iconst (v := 1) hx hb d_M_toWrite_57 (by decide) ?_
          refine lv_icmp_ne (tgt := 64) hx hb d_M_toWrite_58 (by decide) (fun hh23 => ?_) (fun hh23 => ?_)
          · skip
            exact J64_3 _ _ _ (by have hl := lv_sub hl [1, 2, 3, 4, 0] rfl; rw [show (jL3_M_toWrite_64_3 X M a r) = (jL3_M_toWrite_64_2 X M a r) from (by first | (simp only [jL3_M_toWrite_64_3, eq_false hh1, eq_false hh22, eq_false hh23, ↓reduceIte]; done) | (simp [jL3_M_toWrite_64_3, eq_false hh1, eq_false hh22, eq_false hh23]; done))]; exact hl) h
          · skip
            refine lv_iinc (k := 4) (v := ((jL3_M_toWrite_64_2 X M a r) + 1)) hx hb d_M_toWrite_61 hl rfl rfl (by decide) rfl (fun ls hl => ?_)
            have hl : lv_has ls 5 [(3, .int ((jL3_M_toWrite_64_2 X M a r) + 1)), (4, .int 2), (0, .ref (q 37)), (1, .int a), (2, .int r)] := hl
            exact J64_3 _ _ _ (by have hl := lv_sub hl [2, 3, 4, 0, 1] rfl; rw [show (jL3_M_toWrite_64_3 X M a r) = ((jL3_M_toWrite_64_2 X M a r) + 1) from (by first | (simp only [jL3_M_toWrite_64_3, eq_false hh1, eq_false hh22, eq_true hh23, ↓reduceIte]; done) | (simp [jL3_M_toWrite_64_3, eq_false hh1, eq_false hh22, eq_true hh23]; done))]; exact hl) h
      refine lv_iload hx hb d_M_toWrite_40 (lv_at hl 0 rfl) ?_
      refine lv_iload_n hx hb d_M_toWrite_42 rfl (lv_at hl 3 rfl) ?_
      refine lv_icmp_eq (tgt := 64) hx hb d_M_toWrite_43 (by decide) (fun hh24 => ?_) (fun hh24 => ?_)
      · skip
        exact J64_2 _ _ _ (by have hl := lv_sub hl [1, 2, 3, 4, 0] rfl; rw [show (jL3_M_toWrite_64_2 X M a r) = (jL3_M_toWrite_64_1 X M a r) from (by first | (simp only [jL3_M_toWrite_64_2, eq_false hh1, eq_true hh24, ↓reduceIte]; done) | (simp [jL3_M_toWrite_64_2, eq_false hh1, eq_true hh24]; done))]; exact hl) h
      · skip
        refine lv_aload_n hx hb d_M_toWrite_46 rfl (lv_at hl 1 rfl) ?_
        refine g_M_50 C h d_M_toWrite_47 ?_
        refine lv_iload_n hx hb d_M_toWrite_50 rfl (lv_at hl 2 rfl) ?_
        refine l_M13 C h ha d_M_toWrite_51 ?_
        refine lv_iload hx hb d_M_toWrite_52 (lv_at hl 0 rfl) ?_
        refine lv_ishr hx hb d_M_toWrite_54 ?_
        refine lv_iconst (v := 1) hx hb d_M_toWrite_55 (by decide) ?_
        refine lv_iand hx hb d_M_toWrite_56 ?_
        refine lv_iconst (v := 1) hx hb d_M_toWrite_57 (by decide) ?_
        refine lv_icmp_ne (tgt := 64) hx hb d_M_toWrite_58 (by decide) (fun hh25 => ?_) (fun hh25 => ?_)
        · skip
          exact J64_2 _ _ _ (by have hl := lv_sub hl [1, 2, 3, 4, 0] rfl; rw [show (jL3_M_toWrite_64_2 X M a r) = (jL3_M_toWrite_64_1 X M a r) from (by first | (simp only [jL3_M_toWrite_64_2, eq_false hh1, eq_false hh24, eq_false hh25, ↓reduceIte]; done) | (simp [jL3_M_toWrite_64_2, eq_false hh1, eq_false hh24, eq_false hh25]; done))]; exact hl) h
        · skip
          refine lv_iinc (k := 4) (v := ((jL3_M_toWrite_64_1 X M a r) + 1)) hx hb d_M_toWrite_61 hl rfl rfl (by decide) rfl (fun ls hl => ?_)
          have hl : lv_has ls 5 [(3, .int ((jL3_M_toWrite_64_1 X M a r) + 1)), (4, .int 1), (0, .ref (q 37)), (1, .int a), (2, .int r)] := hl
          exact J64_2 _ _ _ (by have hl := lv_sub hl [2, 3, 4, 0, 1] rfl; rw [show (jL3_M_toWrite_64_2 X M a r) = ((jL3_M_toWrite_64_1 X M a r) + 1) from (by first | (simp only [jL3_M_toWrite_64_2, eq_false hh1, eq_false hh24, eq_true hh25, ↓reduceIte]; done) | (simp [jL3_M_toWrite_64_2, eq_false hh1, eq_false hh24, eq_true hh25]; done))]; exact hl) h
    refine lv_iload hx hb d_M_toWrite_40 (lv_at hl 0 rfl) ?_
    refine lv_iload_n hx hb d_M_toWrite_42 rfl (lv_at hl 4 rfl) ?_
    refine lv_icmp_eq (tgt := 64) hx hb d_M_toWrite_43 (by decide) (fun hh26 => ?_) (fun hh26 => ?_)
    · skip
      exact J64_1 _ _ _ (by have hl := lv_sub hl [2, 3, 4, 1, 0] rfl; rw [show (jL3_M_toWrite_64_1 X M a r) = 0 from (by first | (simp only [jL3_M_toWrite_64_1, eq_false hh1, eq_true hh26, ↓reduceIte]; done) | (simp [jL3_M_toWrite_64_1, eq_false hh1, eq_true hh26]; done))]; exact hl) h
    · skip
      refine lv_aload_n hx hb d_M_toWrite_46 rfl (lv_at hl 2 rfl) ?_
      refine g_M_50 C h d_M_toWrite_47 ?_
      refine lv_iload_n hx hb d_M_toWrite_50 rfl (lv_at hl 3 rfl) ?_
      refine l_M13 C h ha d_M_toWrite_51 ?_
      refine lv_iload hx hb d_M_toWrite_52 (lv_at hl 0 rfl) ?_
      refine lv_ishr hx hb d_M_toWrite_54 ?_
      refine lv_iconst (v := 1) hx hb d_M_toWrite_55 (by decide) ?_
      refine lv_iand hx hb d_M_toWrite_56 ?_
      refine lv_iconst (v := 1) hx hb d_M_toWrite_57 (by decide) ?_
      refine lv_icmp_ne (tgt := 64) hx hb d_M_toWrite_58 (by decide) (fun hh27 => ?_) (fun hh27 => ?_)
      · skip
        exact J64_1 _ _ _ (by have hl := lv_sub hl [2, 3, 4, 1, 0] rfl; rw [show (jL3_M_toWrite_64_1 X M a r) = 0 from (by first | (simp only [jL3_M_toWrite_64_1, eq_false hh1, eq_false hh26, eq_false hh27, ↓reduceIte]; done) | (simp [jL3_M_toWrite_64_1, eq_false hh1, eq_false hh26, eq_false hh27]; done))]; exact hl) h
      · skip
        refine lv_iinc (k := 1) (v := 1) hx hb d_M_toWrite_61 hl rfl (by decide) (by decide) rfl (fun ls hl => ?_)
        have hl : lv_has ls 5 [(3, .int 1), (4, .int 0), (0, .ref (q 37)), (1, .int a), (2, .int r)] := hl
        exact J64_1 _ _ _ (by have hl := lv_sub hl [2, 3, 4, 0, 1] rfl; rw [show (jL3_M_toWrite_64_1 X M a r) = 1 from (by first | (simp only [jL3_M_toWrite_64_1, eq_false hh1, eq_false hh26, eq_true hh27, ↓reduceIte]; done) | (simp [jL3_M_toWrite_64_1, eq_false hh1, eq_false hh26, eq_true hh27]; done))]; exact hl) h
  · skip
    refine lv_aload_n hx hb d_M_toWrite_10 rfl (lv_at hl 0 rfl) ?_
    refine lv_bipush (v := 6) hx hb d_M_toWrite_11 (by decide) ?_
    refine lv_iload_n hx hb d_M_toWrite_13 rfl (lv_at hl 1 rfl) ?_
    refine lv_iconst (v := 4) hx hb d_M_toWrite_14 (by decide) ?_
    refine lv_aload_n hx hb d_M_toWrite_15 rfl (lv_at hl 0 rfl) ?_
    refine g_M_47 C h d_M_toWrite_16 ?_
    refine lv_iload_n hx hb d_M_toWrite_19 rfl (lv_at hl 1 rfl) ?_
    refine l_M12 C h ha d_M_toWrite_20 ?_
    refine lv_iload_n hx hb d_M_toWrite_21 rfl (lv_at hl 2 rfl) ?_
    refine lv_iconst (v := 0) hx hb d_M_toWrite_22 (by decide) ?_
    refine z_callV (i := 37) C h (k_M_send l dC dI k q X M 6 a 4 (M 12 (Int32.toNatClampNeg a)) r 0 (zRow.room (zRow.of hn) (by omega)) (vp4 hr4 ha)) co_M_send ml_M_130 im_M_send se_M_send in_M rfl rfl hd_M_send ⟨by decide, by decide⟩ ⟨Nat.zero_le _, Nat.zero_le _⟩ hl.1 (Nat.le_of_ble_eq_true rfl) d_M_toWrite_23 rfl (fun H locs h => ?_)
    refine W.eq (g2 := F0 m 26 ls []) rfl ?_
    have h : zH dC dI k q X (m_send M 6 a 4 (M 12 (Int32.toNatClampNeg a)) r 0 0) (zA q) s.heap H locs := h
    refine lv_goto (tgt := 142) hx hb d_M_toWrite_26 (by decide) ?_
    refine lv_aload_n hx hb d_M_toWrite_142 rfl (lv_at hl 0 rfl) ?_
    refine g_M_47 C h d_M_toWrite_143 ?_
    refine lv_iload_n hx hb d_M_toWrite_146 rfl (lv_at hl 1 rfl) ?_
    refine lv_iload_n hx hb d_M_toWrite_147 rfl (lv_at hl 2 rfl) ?_
    refine s_M12 C h ha d_M_toWrite_148 (fun H locs h => ?_)
    refine lv_aload_n hx hb d_M_toWrite_149 rfl (lv_at hl 0 rfl) ?_
    refine g_M_44 C h d_M_toWrite_150 ?_
    refine lv_iload_n hx hb d_M_toWrite_153 rfl (lv_at hl 1 rfl) ?_
    refine lv_iconst (v := 2) hx hb d_M_toWrite_154 (by decide) ?_
    refine s_M11 C h ha d_M_toWrite_155 (fun H locs h => ?_)
    exact z_retvE C h hr hk (by first | rfl | (simp only [m_M_toWrite, eq_true hh1, ↓reduceIte]; done) | (simp [m_M_toWrite, eq_true hh1]; done)) (by first | rfl | (simp only [m_M_toWrite, eq_true hh1, ↓reduceIte]; done) | (simp [m_M_toWrite, eq_true hh1]; done)) d_M_toWrite_156
end
section
theorem four_in {x : Int32} (h : ¬ m_four x = 0) : vp_in x 4 := by
  unfold m_four at h
  split at h
  · exact absurd rfl h
  · next h1 =>
    split at h
    · exact absurd rfl h
    · next h2 =>
      rw [vp_in_iff]
      rw [Int32.lt_iff_toInt_lt] at h1 h2
      have e3 : (3 : Int32).toInt = 3 := rfl
      have e0 : (0 : Int32).toInt = 0 := rfl
      omega
theorem rows_in {x y : Int32} {n N : Nat} (h0 : ¬ x < 0) (h : x < y) (hy : y = nI n) (hn : n ≤ N) (hN : N < 2 ^ 31) : vp_in x N := by
  rw [hy] at h
  rw [vp_in_iff]
  rw [Int32.lt_iff_toInt_lt] at h0 h
  rw [nI_toInt (by omega)] at h
  have e0 : (0 : Int32).toInt = 0 := rfl
  omega
theorem z_out6 {x : Int32} (h0 : ¬ x = 0) (h1 : ¬ x = 1) (h2 : ¬ x = 2) (h3 : ¬ x = 3) (h4 : ¬ x = 4) (h5 : ¬ x = 5) : x.toInt < 0 ∨ 5 < x.toInt := by
  rw [← Int32.toInt_inj] at h0 h1 h2 h3 h4 h5
  have e0 : (0 : Int32).toInt = 0 := rfl
  have e1 : (1 : Int32).toInt = 1 := rfl
  have e2 : (2 : Int32).toInt = 2 := rfl
  have e3 : (3 : Int32).toInt = 3 := rfl
  have e4 : (4 : Int32).toInt = 4 := rfl
  have e5 : (5 : Int32).toInt = 5 := rfl
  omega
theorem hd_M_finish : y_M_finish.cls ≠ "java/lang/invoke/MethodHandle" ∧ y_M_finish.cls ≠ "java/lang/invoke/VarHandle" ∧ (parseMethodDescriptor y_M_finish.desc).map (fun d => d.parameters.length) = some 2 := by decide +kernel
def jL4_M_finish_32_1 (X : zXS) (M : zMS) (co : Int32) (a : Int32) : Int32 := (if (M 7 (Int32.toNatClampNeg co)) = 1 then (M 8 (Int32.toNatClampNeg co)) else (M 1 (Int32.toNatClampNeg ((4 * co) + a))))
def jS0_M_finish_74_1 (X : zXS) (M : zMS) (co : Int32) (a : Int32) : Int32 := (if (M 7 (Int32.toNatClampNeg co)) = 1 then (M 8 (Int32.toNatClampNeg co)) else ((jL4_M_finish_32_1 X M co a) + (M 8 (Int32.toNatClampNeg co))))
def jM_M_finish_82_1 (X : zXS) (M : zMS) (co : Int32) (a : Int32) : zMS := (if (M 7 (Int32.toNatClampNeg co)) ≤ 0 then M else (u2 (u2 M 1 (Int32.toNatClampNeg ((4 * co) + a)) (jS0_M_finish_74_1 X M co a)) 0 (Int32.toNatClampNeg ((4 * co) + a)) 3))
def m_M_finish (X : zXS) (M : zMS) (co : Int32) (a : Int32) : zMS := (u2 (u2 (u2 (jM_M_finish_82_1 X M co a) 10 (Int32.toNatClampNeg co) (jL4_M_finish_32_1 X M co a)) 9 (Int32.toNatClampNeg co) (((jM_M_finish_82_1 X M co a) 9 (Int32.toNatClampNeg co)) + 1)) 5 (Int32.toNatClampNeg co) 0)
set_option maxHeartbeats 1000000 in
set_option maxRecDepth 100000 in
theorem k_M_finish (l : Launch) (dC : Nat → ClassId) (dI : Nat → Nat → Nat) (k : Nat → ClassId) (q : Nat → Nat) (X : zXS) (M : zMS) (co : Int32) (a : Int32)  (hc4 : vp_in co 4) (ha : vp_in a 4) : zMet l dC dI k q y_M_finish c_M_finish 5 none 0 0 [.ref (q 37), .int co, .int a] none X M X (m_M_finish X M co a) := by
  refine zMet.of (by decide) (Nat.le_of_ble_eq_true rfl) ?_
  intro p e s m args below meth c ls C hr hk hl h
  have hx := C.1
  have hb := C.2.1
  have hl : lv_has ls 5 [(0, .ref (q 37)), (1, .int co), (2, .int a)] := hl
  refine lv_iconst (v := 4) hx hb d_M_finish_0 (by decide) ?_
  refine lv_iload_n hx hb d_M_finish_1 rfl (lv_at hl 1 rfl) ?_
  refine lv_imul hx hb d_M_finish_2 ?_
  refine lv_iload_n hx hb d_M_finish_3 rfl (lv_at hl 2 rfl) ?_
  refine lv_iadd hx hb d_M_finish_4 ?_
  refine lv_istore_n hx hb d_M_finish_5 rfl hl (by decide) rfl (fun ls hl => ?_)
  have hl : lv_has ls 5 [(3, .int ((4 * co) + a)), (0, .ref (q 37)), (1, .int co), (2, .int a)] := hl
  refine lv_aload_n hx hb d_M_finish_6 rfl (lv_at hl 1 rfl) ?_
  refine g_M_13 C h d_M_finish_7 ?_
  refine lv_iload_n hx hb d_M_finish_10 rfl (lv_at hl 0 rfl) ?_
  refine l_M1 C h (vp4 hc4 ha) d_M_finish_11 ?_
  refine lv_istore hx hb d_M_finish_12 hl (by decide) rfl (fun ls hl => ?_)
  have hl : lv_has ls 5 [(4, .int (M 1 (Int32.toNatClampNeg ((4 * co) + a)))), (3, .int ((4 * co) + a)), (0, .ref (q 37)), (1, .int co), (2, .int a)] := hl
  have J32_1 : ∀ (ls : Array Slot) (H : Heap) (locs : List Loc), lv_has ls 5 [(0, .ref (q 37)), (1, .int co), (2, .int a), (3, .int ((4 * co) + a)), (4, .int (jL4_M_finish_32_1 X M co a))] → zH dC dI k q X M (zA q) s.heap H locs → W p l e { frames := 0, cells := 0, slots := 0, locals := 0 } s m args below meth c H locs 0 0 (MQ below (zQc dC dI k q X (m_M_finish X M co a) none) args s 0 0 (zA q)) (F0 m 32 ls []) := by
    intro ls H locs hl h
    have J82_1 : ∀ (ls : Array Slot) (H : Heap) (locs : List Loc), lv_has ls 5 [(0, .ref (q 37)), (1, .int co), (2, .int a), (3, .int ((4 * co) + a)), (4, .int (jL4_M_finish_32_1 X M co a))] → zH dC dI k q X (jM_M_finish_82_1 X M co a) (zA q) s.heap H locs → W p l e { frames := 0, cells := 0, slots := 0, locals := 0 } s m args below meth c H locs 0 0 (MQ below (zQc dC dI k q X (m_M_finish X M co a) none) args s 0 0 (zA q)) (F0 m 82 ls []) := by
      intro ls H locs hl h
      refine lv_aload_n hx hb d_M_finish_82 rfl (lv_at hl 0 rfl) ?_
      refine g_M_41 C h d_M_finish_83 ?_
      refine lv_iload_n hx hb d_M_finish_86 rfl (lv_at hl 1 rfl) ?_
      refine lv_iload hx hb d_M_finish_87 (lv_at hl 4 rfl) ?_
      refine s_M10 C h hc4 d_M_finish_89 (fun H locs h => ?_)
      refine lv_aload_n hx hb d_M_finish_90 rfl (lv_at hl 0 rfl) ?_
      refine g_M_38 C h d_M_finish_91 ?_
      refine lv_iload_n hx hb d_M_finish_94 rfl (lv_at hl 1 rfl) ?_
      refine lv_dup2_11 hx hb d_M_finish_95 rfl rfl ?_
      refine l_M9 C h hc4 d_M_finish_96 ?_
      refine z_top (y := (jM_M_finish_82_1 X M co a) 9 (Int32.toNatClampNeg co)) rfl ?_
      refine lv_iconst (v := 1) hx hb d_M_finish_97 (by decide) ?_
      refine lv_iadd hx hb d_M_finish_98 ?_
      refine s_M9 C h hc4 d_M_finish_99 (fun H locs h => ?_)
      refine lv_aload_n hx hb d_M_finish_100 rfl (lv_at hl 0 rfl) ?_
      refine g_M_25 C h d_M_finish_101 ?_
      refine lv_iload_n hx hb d_M_finish_104 rfl (lv_at hl 1 rfl) ?_
      refine lv_iconst (v := 0) hx hb d_M_finish_105 (by decide) ?_
      refine s_M5 C h hc4 (Or.inl rfl) d_M_finish_106 (fun H locs h => ?_)
      exact z_retvE C h hr hk (by first | rfl | (simp only [m_M_finish, ↓reduceIte]; done) | (simp [m_M_finish]; done)) (by first | rfl | (simp only [m_M_finish, ↓reduceIte]; done) | (simp [m_M_finish]; done)) d_M_finish_107
    refine lv_aload_n hx hb d_M_finish_32 rfl (lv_at hl 0 rfl) ?_
    refine g_M_32 C h d_M_finish_33 ?_
    refine lv_iload_n hx hb d_M_finish_36 rfl (lv_at hl 1 rfl) ?_
    refine l_M7 C h hc4 d_M_finish_37 ?_
    refine lv_if_le (tgt := 82) hx hb d_M_finish_38 (by decide) (fun hh1 => ?_) (fun hh1 => ?_)
    · skip
      exact J82_1 _ _ _ (lv_sub hl [0, 1, 2, 3, 4] rfl) (by rw [show (jM_M_finish_82_1 X M co a) = M from (by first | (simp only [jM_M_finish_82_1, eq_true hh1, ↓reduceIte]; done) | (simp [jM_M_finish_82_1, eq_true hh1]; done))]; exact h)
    · skip
      refine lv_aload_n hx hb d_M_finish_41 rfl (lv_at hl 0 rfl) ?_
      refine g_M_13 C h d_M_finish_42 ?_
      refine lv_iload_n hx hb d_M_finish_45 rfl (lv_at hl 3 rfl) ?_
      have J74_1 : ∀ (ls : Array Slot) (H : Heap) (locs : List Loc), lv_has ls 5 [(0, .ref (q 37)), (1, .int co), (2, .int a), (3, .int ((4 * co) + a)), (4, .int (jL4_M_finish_32_1 X M co a))] → zH dC dI k q X M (zA q) s.heap H locs → W p l e { frames := 0, cells := 0, slots := 0, locals := 0 } s m args below meth c H locs 0 0 (MQ below (zQc dC dI k q X (m_M_finish X M co a) none) args s 0 0 (zA q)) (F0 m 74 ls [.int (jS0_M_finish_74_1 X M co a), .int ((4 * co) + a), .ref (q 39)]) := by
        intro ls H locs hl h
        refine s_M1 C h (vp4 hc4 ha) d_M_finish_74 (fun H locs h => ?_)
        refine lv_aload_n hx hb d_M_finish_75 rfl (lv_at hl 0 rfl) ?_
        refine g_M_7 C h d_M_finish_76 ?_
        refine lv_iload_n hx hb d_M_finish_79 rfl (lv_at hl 3 rfl) ?_
        refine lv_iconst (v := 3) hx hb d_M_finish_80 (by decide) ?_
        refine s_M0 C h (vp4 hc4 ha) d_M_finish_81 (fun H locs h => ?_)
        exact J82_1 _ _ _ (lv_sub hl [0, 1, 2, 3, 4] rfl) (by rw [show (jM_M_finish_82_1 X M co a) = (u2 (u2 M 1 (Int32.toNatClampNeg ((4 * co) + a)) (jS0_M_finish_74_1 X M co a)) 0 (Int32.toNatClampNeg ((4 * co) + a)) 3) from (by first | (simp only [jM_M_finish_82_1, eq_false hh1, ↓reduceIte]; done) | (simp [jM_M_finish_82_1, eq_false hh1]; done))]; exact h)
      refine lv_aload_n hx hb d_M_finish_46 rfl (lv_at hl 0 rfl) ?_
      refine g_M_32 C h d_M_finish_47 ?_
      refine lv_iload_n hx hb d_M_finish_50 rfl (lv_at hl 1 rfl) ?_
      refine l_M7 C h hc4 d_M_finish_51 ?_
      refine lv_iconst (v := 1) hx hb d_M_finish_52 (by decide) ?_
      refine lv_icmp_ne (tgt := 65) hx hb d_M_finish_53 (by decide) (fun hh2 => ?_) (fun hh2 => ?_)
      · skip
        refine lv_iload hx hb d_M_finish_65 (lv_at hl 4 rfl) ?_
        refine lv_aload_n hx hb d_M_finish_67 rfl (lv_at hl 0 rfl) ?_
        refine g_M_35 C h d_M_finish_68 ?_
        refine lv_iload_n hx hb d_M_finish_71 rfl (lv_at hl 1 rfl) ?_
        refine l_M8 C h hc4 d_M_finish_72 ?_
        refine lv_iadd hx hb d_M_finish_73 ?_
        have J := J74_1 _ _ _ (lv_sub hl [0, 1, 2, 3, 4] rfl) h
        rw [show (jS0_M_finish_74_1 X M co a) = ((jL4_M_finish_32_1 X M co a) + (M 8 (Int32.toNatClampNeg co))) from (by first | (simp only [jS0_M_finish_74_1, eq_false hh1, eq_false hh2, ↓reduceIte]; done) | (simp [jS0_M_finish_74_1, eq_false hh1, eq_false hh2]; done))] at J
        exact J
      · skip
        refine lv_aload_n hx hb d_M_finish_56 rfl (lv_at hl 0 rfl) ?_
        refine g_M_35 C h d_M_finish_57 ?_
        refine lv_iload_n hx hb d_M_finish_60 rfl (lv_at hl 1 rfl) ?_
        refine l_M8 C h hc4 d_M_finish_61 ?_
        refine lv_goto (tgt := 74) hx hb d_M_finish_62 (by decide) ?_
        have J := J74_1 _ _ _ (lv_sub hl [0, 1, 2, 3, 4] rfl) h
        rw [show (jS0_M_finish_74_1 X M co a) = (M 8 (Int32.toNatClampNeg co)) from (by first | (simp only [jS0_M_finish_74_1, eq_false hh1, eq_true hh2, ↓reduceIte]; done) | (simp [jS0_M_finish_74_1, eq_false hh1, eq_true hh2]; done))] at J
        exact J
  refine lv_aload_n hx hb d_M_finish_14 rfl (lv_at hl 2 rfl) ?_
  refine g_M_32 C h d_M_finish_15 ?_
  refine lv_iload_n hx hb d_M_finish_18 rfl (lv_at hl 3 rfl) ?_
  refine l_M7 C h hc4 d_M_finish_19 ?_
  refine lv_iconst (v := 1) hx hb d_M_finish_20 (by decide) ?_
  refine lv_icmp_ne (tgt := 32) hx hb d_M_finish_21 (by decide) (fun hh3 => ?_) (fun hh3 => ?_)
  · skip
    exact J32_1 _ _ _ (by have hl := lv_sub hl [2, 3, 4, 1, 0] rfl; rw [show (jL4_M_finish_32_1 X M co a) = (M 1 (Int32.toNatClampNeg ((4 * co) + a))) from (by first | (simp only [jL4_M_finish_32_1, eq_false hh3, ↓reduceIte]; done) | (simp [jL4_M_finish_32_1, eq_false hh3]; done))]; exact hl) h
  · skip
    refine lv_aload_n hx hb d_M_finish_24 rfl (lv_at hl 2 rfl) ?_
    refine g_M_35 C h d_M_finish_25 ?_
    refine lv_iload_n hx hb d_M_finish_28 rfl (lv_at hl 3 rfl) ?_
    refine l_M8 C h hc4 d_M_finish_29 ?_
    refine lv_istore hx hb d_M_finish_30 hl (by decide) rfl (fun ls hl => ?_)
    have hl : lv_has ls 5 [(4, .int (M 8 (Int32.toNatClampNeg co))), (3, .int ((4 * co) + a)), (0, .ref (q 37)), (1, .int co), (2, .int a)] := hl
    exact J32_1 _ _ _ (by have hl := lv_sub hl [2, 3, 4, 1, 0] rfl; rw [show (jL4_M_finish_32_1 X M co a) = (M 8 (Int32.toNatClampNeg co)) from (by first | (simp only [jL4_M_finish_32_1, eq_true hh3, ↓reduceIte]; done) | (simp [jL4_M_finish_32_1, eq_true hh3]; done))]; exact hl) h
theorem hd_M_acknowledged : y_M_acknowledged.cls ≠ "java/lang/invoke/MethodHandle" ∧ y_M_acknowledged.cls ≠ "java/lang/invoke/VarHandle" ∧ (parseMethodDescriptor y_M_acknowledged.desc).map (fun d => d.parameters.length) = some 2 := by decide +kernel
def m_M_acknowledged (X : zXS) (M : zMS) (co : Int32) (a : Int32) : zMS := (if (M 3 (Int32.toNatClampNeg ((4 * co) + a))) = (M 2 (Int32.toNatClampNeg ((4 * co) + a))) then (m_M_finish X (u2 M 0 (Int32.toNatClampNeg ((4 * co) + a)) 3) co a) else M)
set_option maxHeartbeats 1000000 in
set_option maxRecDepth 100000 in
theorem k_M_acknowledged (l : Launch) (dC : Nat → ClassId) (dI : Nat → Nat → Nat) (k : Nat → ClassId) (q : Nat → Nat) (X : zXS) (M : zMS) (co : Int32) (a : Int32)  (hc4 : vp_in co 4) (ha : vp_in a 4) : zMet l dC dI k q y_M_acknowledged c_M_acknowledged 4 none 1 24 [.ref (q 37), .int co, .int a] none X M X (m_M_acknowledged X M co a) := by
  refine zMet.of (by decide) (Nat.le_of_ble_eq_true rfl) ?_
  intro p e s m args below meth c ls C hr hk hl h
  have hx := C.1
  have hb := C.2.1
  have hl : lv_has ls 4 [(0, .ref (q 37)), (1, .int co), (2, .int a)] := hl
  refine lv_iconst (v := 4) hx hb d_M_acknowledged_0 (by decide) ?_
  refine lv_iload_n hx hb d_M_acknowledged_1 rfl (lv_at hl 1 rfl) ?_
  refine lv_imul hx hb d_M_acknowledged_2 ?_
  refine lv_iload_n hx hb d_M_acknowledged_3 rfl (lv_at hl 2 rfl) ?_
  refine lv_iadd hx hb d_M_acknowledged_4 ?_
  refine lv_istore_n hx hb d_M_acknowledged_5 rfl hl (by decide) rfl (fun ls hl => ?_)
  have hl : lv_has ls 4 [(3, .int ((4 * co) + a)), (0, .ref (q 37)), (1, .int co), (2, .int a)] := hl
  refine lv_aload_n hx hb d_M_acknowledged_6 rfl (lv_at hl 1 rfl) ?_
  refine g_M_19 C h d_M_acknowledged_7 ?_
  refine lv_iload_n hx hb d_M_acknowledged_10 rfl (lv_at hl 0 rfl) ?_
  refine l_M3 C h (vp4 hc4 ha) d_M_acknowledged_11 ?_
  refine lv_aload_n hx hb d_M_acknowledged_12 rfl (lv_at hl 1 rfl) ?_
  refine g_M_16 C h d_M_acknowledged_13 ?_
  refine lv_iload_n hx hb d_M_acknowledged_16 rfl (lv_at hl 0 rfl) ?_
  refine l_M2 C h (vp4 hc4 ha) d_M_acknowledged_17 ?_
  refine lv_icmp_eq (tgt := 22) hx hb d_M_acknowledged_18 (by decide) (fun hh1 => ?_) (fun hh1 => ?_)
  · skip
    refine lv_aload_n hx hb d_M_acknowledged_22 rfl (lv_at hl 1 rfl) ?_
    refine g_M_7 C h d_M_acknowledged_23 ?_
    refine lv_iload_n hx hb d_M_acknowledged_26 rfl (lv_at hl 0 rfl) ?_
    refine lv_iconst (v := 3) hx hb d_M_acknowledged_27 (by decide) ?_
    refine s_M0 C h (vp4 hc4 ha) d_M_acknowledged_28 (fun H locs h => ?_)
    refine lv_aload_n hx hb d_M_acknowledged_29 rfl (lv_at hl 1 rfl) ?_
    refine lv_iload_n hx hb d_M_acknowledged_30 rfl (lv_at hl 2 rfl) ?_
    refine lv_iload_n hx hb d_M_acknowledged_31 rfl (lv_at hl 3 rfl) ?_
    refine z_callV (i := 37) C h (k_M_finish l dC dI k q X (u2 M 0 (Int32.toNatClampNeg ((4 * co) + a)) 3) co a hc4 ha) co_M_finish ml_M_136 im_M_finish se_M_finish in_M rfl rfl hd_M_finish ⟨by decide, by decide⟩ ⟨Nat.zero_le _, Nat.zero_le _⟩ hl.1 (Nat.le_of_ble_eq_true rfl) d_M_acknowledged_32 rfl (fun H locs h => ?_)
    refine W.eq (g2 := F0 m 35 ls []) rfl ?_
    have h : zH dC dI k q X (m_M_finish X (u2 M 0 (Int32.toNatClampNeg ((4 * co) + a)) 3) co a) (zA q) s.heap H locs := h
    exact z_retvE C h hr hk (by first | rfl | (simp only [m_M_acknowledged, eq_true hh1, ↓reduceIte]; done) | (simp [m_M_acknowledged, eq_true hh1]; done)) (by first | rfl | (simp only [m_M_acknowledged, eq_true hh1, ↓reduceIte]; done) | (simp [m_M_acknowledged, eq_true hh1]; done)) d_M_acknowledged_35
  · skip
    exact z_retvE C h hr hk (by first | rfl | (simp only [m_M_acknowledged, eq_false hh1, ↓reduceIte]; done) | (simp [m_M_acknowledged, eq_false hh1]; done)) (by first | rfl | (simp only [m_M_acknowledged, eq_false hh1, ↓reduceIte]; done) | (simp [m_M_acknowledged, eq_false hh1]; done)) d_M_acknowledged_21
theorem hd_M_toCore : y_M_toCore.cls ≠ "java/lang/invoke/MethodHandle" ∧ y_M_toCore.cls ≠ "java/lang/invoke/VarHandle" ∧ (parseMethodDescriptor y_M_toCore.desc).map (fun d => d.parameters.length) = some 6 := by decide +kernel
def jS0_M_toCore_323_1 (X : zXS) (M : zMS) (w : Int32) (a : Int32) (co : Int32) (r : Int32) (nn : Int32) (v : Int32) : Int32 := (if (M 0 (Int32.toNatClampNeg ((4 * co) + a))) = 7 then 8 else 6)
def jS0_M_toCore_66_1 (X : zXS) (M : zMS) (w : Int32) (a : Int32) (co : Int32) (r : Int32) (nn : Int32) (v : Int32) : Int32 := (if (M 0 (Int32.toNatClampNeg ((4 * co) + a))) = 2 then 1 else (if (M 0 (Int32.toNatClampNeg ((4 * co) + a))) = 3 then 1 else (if (M 0 (Int32.toNatClampNeg ((4 * co) + a))) = 9 then 1 else (if (M 0 (Int32.toNatClampNeg ((4 * co) + a))) = 10 then 1 else 0))))
def jS0_M_toCore_93_1 (X : zXS) (M : zMS) (w : Int32) (a : Int32) (co : Int32) (r : Int32) (nn : Int32) (v : Int32) : Int32 := (if (M 0 (Int32.toNatClampNeg ((4 * co) + a))) = 1 then 1 else (if (M 0 (Int32.toNatClampNeg ((4 * co) + a))) = 7 then 1 else (if (M 0 (Int32.toNatClampNeg ((4 * co) + a))) = 11 then 1 else 0)))
def jM_M_toCore_126_1 (X : zXS) (M : zMS) (w : Int32) (a : Int32) (co : Int32) (r : Int32) (nn : Int32) (v : Int32) : zMS := (if 7 ≤ w then (u2 M 0 (Int32.toNatClampNeg ((4 * co) + a)) (m_bec w (M 0 (Int32.toNatClampNeg ((4 * co) + a))))) else (if (jS0_M_toCore_66_1 X M w a co r nn v) = 0 then (u2 M 0 (Int32.toNatClampNeg ((4 * co) + a)) (m_bec w (M 0 (Int32.toNatClampNeg ((4 * co) + a))))) else (m_send (u2 M 0 (Int32.toNatClampNeg ((4 * co) + a)) (m_bec w (M 0 (Int32.toNatClampNeg ((4 * co) + a))))) 9 a co r r 0 (M 1 (Int32.toNatClampNeg ((4 * co) + a))))))
def jM_M_toCore_155_1 (X : zXS) (M : zMS) (w : Int32) (a : Int32) (co : Int32) (r : Int32) (nn : Int32) (v : Int32) : zMS := (if w = 5 then (if (jS0_M_toCore_66_1 X M w a co r nn v) = 0 then (jM_M_toCore_126_1 X M w a co r nn v) else (m_send (jM_M_toCore_126_1 X M w a co r nn v) 9 a co 4 r 0 ((jM_M_toCore_126_1 X M w a co r nn v) 1 (Int32.toNatClampNeg ((4 * co) + a))))) else (jM_M_toCore_126_1 X M w a co r nn v))
def jM_M_toCore_179_1 (X : zXS) (M : zMS) (w : Int32) (a : Int32) (co : Int32) (r : Int32) (nn : Int32) (v : Int32) : zMS := (if w = 7 then (if (jS0_M_toCore_93_1 X M w a co r nn v) = 0 then (jM_M_toCore_155_1 X M w a co r nn v) else (m_send (jM_M_toCore_155_1 X M w a co r nn v) 11 a co r r 0 0)) else (jM_M_toCore_155_1 X M w a co r nn v))
def m_M_toCore (X : zXS) (M : zMS) (w : Int32) (a : Int32) (co : Int32) (r : Int32) (nn : Int32) (v : Int32) : zMS := (if 8 ≤ w then (if w = 8 then (u2 M 0 (Int32.toNatClampNeg ((4 * co) + a)) 0) else (if w = 11 then (if (M 0 (Int32.toNatClampNeg ((4 * co) + a))) = 6 then (m_M_acknowledged X (u2 M 3 (Int32.toNatClampNeg ((4 * co) + a)) ((M 3 (Int32.toNatClampNeg ((4 * co) + a))) + 1)) co a) else (if (M 0 (Int32.toNatClampNeg ((4 * co) + a))) = 8 then (m_M_acknowledged X (u2 M 3 (Int32.toNatClampNeg ((4 * co) + a)) ((M 3 (Int32.toNatClampNeg ((4 * co) + a))) + 1)) co a) else (u2 M 3 (Int32.toNatClampNeg ((4 * co) + a)) ((M 3 (Int32.toNatClampNeg ((4 * co) + a))) + 1)))) else (if w = 10 then (m_M_finish X (u2 (u2 M 1 (Int32.toNatClampNeg ((4 * co) + a)) v) 0 (Int32.toNatClampNeg ((4 * co) + a)) 2) co a) else (if (M 0 (Int32.toNatClampNeg ((4 * co) + a))) = 4 then (m_M_finish X (u2 (u2 M 1 (Int32.toNatClampNeg ((4 * co) + a)) v) 0 (Int32.toNatClampNeg ((4 * co) + a)) 1) co a) else (m_M_acknowledged X (u2 (u2 (u2 M 1 (Int32.toNatClampNeg ((4 * co) + a)) v) 2 (Int32.toNatClampNeg ((4 * co) + a)) nn) 0 (Int32.toNatClampNeg ((4 * co) + a)) (jS0_M_toCore_323_1 X M w a co r nn v)) co a))))) else (jM_M_toCore_179_1 X M w a co r nn v))
set_option maxHeartbeats 1000000 in
set_option maxRecDepth 100000 in
theorem k_M_toCore (l : Launch) (dC : Nat → ClassId) (dI : Nat → Nat → Nat) (k : Nat → ClassId) (q : Nat → Nat) (X : zXS) (M : zMS) (w : Int32) (a : Int32) (co : Int32) (r : Int32) (nn : Int32) (v : Int32)  (n : Nat) (hn : M 15 0 = nI n) (hb9 : n + 8 < 200) (hc4 : vp_in co 4) (ha : vp_in a 4) (hr4 : vp_in r 4) : zMet l dC dI k q y_M_toCore c_M_toCore 11 none 2 53 [.ref (q 37), .int w, .int a, .int co, .int r, .int nn, .int v] none X M X (m_M_toCore X M w a co r nn v) := by
  refine zMet.of (by decide) (Nat.le_of_ble_eq_true rfl) ?_
  intro p e s m args below meth c ls C hr hk hl h
  have hx := C.1
  have hb := C.2.1
  have hl : lv_has ls 11 [(0, .ref (q 37)), (1, .int w), (2, .int a), (3, .int co), (4, .int r), (5, .int nn), (6, .int v)] := hl
  refine lv_iconst (v := 4) hx hb d_M_toCore_0 (by decide) ?_
  refine lv_iload_n hx hb d_M_toCore_1 rfl (lv_at hl 3 rfl) ?_
  refine lv_imul hx hb d_M_toCore_2 ?_
  refine lv_iload_n hx hb d_M_toCore_3 rfl (lv_at hl 2 rfl) ?_
  refine lv_iadd hx hb d_M_toCore_4 ?_
  refine lv_istore hx hb d_M_toCore_5 hl (by decide) rfl (fun ls hl => ?_)
  have hl : lv_has ls 11 [(7, .int ((4 * co) + a)), (0, .ref (q 37)), (1, .int w), (2, .int a), (3, .int co), (4, .int r), (5, .int nn), (6, .int v)] := hl
  refine lv_aload_n hx hb d_M_toCore_7 rfl (lv_at hl 1 rfl) ?_
  refine g_M_7 C h d_M_toCore_8 ?_
  refine lv_iload hx hb d_M_toCore_11 (lv_at hl 0 rfl) ?_
  refine l_M0 C h (vp4 hc4 ha) d_M_toCore_13 ?_
  refine lv_istore hx hb d_M_toCore_14 hl (by decide) rfl (fun ls hl => ?_)
  have hl : lv_has ls 11 [(8, .int (M 0 (Int32.toNatClampNeg ((4 * co) + a)))), (7, .int ((4 * co) + a)), (0, .ref (q 37)), (1, .int w), (2, .int a), (3, .int co), (4, .int r), (5, .int nn), (6, .int v)] := hl
  refine lv_iload_n hx hb d_M_toCore_16 rfl (lv_at hl 3 rfl) ?_
  refine lv_bipush (v := 8) hx hb d_M_toCore_17 (by decide) ?_
  refine lv_icmp_ge (tgt := 182) hx hb d_M_toCore_19 (by decide) (fun hh1 => ?_) (fun hh1 => ?_)
  · skip
    refine lv_iload_n hx hb d_M_toCore_182 rfl (lv_at hl 3 rfl) ?_
    refine lv_bipush (v := 8) hx hb d_M_toCore_183 (by decide) ?_
    refine lv_icmp_ne (tgt := 199) hx hb d_M_toCore_185 (by decide) (fun hh2 => ?_) (fun hh2 => ?_)
    · skip
      refine lv_iload_n hx hb d_M_toCore_199 rfl (lv_at hl 3 rfl) ?_
      refine lv_bipush (v := 11) hx hb d_M_toCore_200 (by decide) ?_
      refine lv_icmp_ne (tgt := 239) hx hb d_M_toCore_202 (by decide) (fun hh3 => ?_) (fun hh3 => ?_)
      · skip
        refine lv_aload_n hx hb d_M_toCore_239 rfl (lv_at hl 2 rfl) ?_
        refine g_M_13 C h d_M_toCore_240 ?_
        refine lv_iload hx hb d_M_toCore_243 (lv_at hl 1 rfl) ?_
        refine lv_iload hx hb d_M_toCore_245 (lv_at hl 8 rfl) ?_
        refine s_M1 C h (vp4 hc4 ha) d_M_toCore_247 (fun H locs h => ?_)
        refine lv_iload_n hx hb d_M_toCore_248 rfl (lv_at hl 3 rfl) ?_
        refine lv_bipush (v := 10) hx hb d_M_toCore_249 (by decide) ?_
        refine lv_icmp_ne (tgt := 271) hx hb d_M_toCore_251 (by decide) (fun hh4 => ?_) (fun hh4 => ?_)
        · skip
          refine lv_iload hx hb d_M_toCore_271 (lv_at hl 0 rfl) ?_
          refine lv_iconst (v := 4) hx hb d_M_toCore_273 (by decide) ?_
          refine lv_icmp_ne (tgt := 294) hx hb d_M_toCore_274 (by decide) (fun hh5 => ?_) (fun hh5 => ?_)
          · skip
            refine lv_aload_n hx hb d_M_toCore_294 rfl (lv_at hl 2 rfl) ?_
            refine g_M_16 C h d_M_toCore_295 ?_
            refine lv_iload hx hb d_M_toCore_298 (lv_at hl 1 rfl) ?_
            refine lv_iload hx hb d_M_toCore_300 (lv_at hl 7 rfl) ?_
            refine s_M2 C h (vp4 hc4 ha) d_M_toCore_302 (fun H locs h => ?_)
            refine lv_aload_n hx hb d_M_toCore_303 rfl (lv_at hl 2 rfl) ?_
            refine g_M_7 C h d_M_toCore_304 ?_
            refine lv_iload hx hb d_M_toCore_307 (lv_at hl 1 rfl) ?_
            have J323_1 : ∀ (ls : Array Slot) (H : Heap) (locs : List Loc), lv_has ls 11 [(0, .ref (q 37)), (1, .int w), (2, .int a), (3, .int co), (4, .int r), (5, .int nn), (6, .int v), (7, .int ((4 * co) + a)), (8, .int (M 0 (Int32.toNatClampNeg ((4 * co) + a))))] → zH dC dI k q X (u2 (u2 M 1 (Int32.toNatClampNeg ((4 * co) + a)) v) 2 (Int32.toNatClampNeg ((4 * co) + a)) nn) (zA q) s.heap H locs → W p l e { frames := 2, cells := 0, slots := 0, locals := 53 } s m args below meth c H locs 0 0 (MQ below (zQc dC dI k q X (m_M_toCore X M w a co r nn v) none) args s 0 0 (zA q)) (F0 m 323 ls [.int (jS0_M_toCore_323_1 X M w a co r nn v), .int ((4 * co) + a), .ref (q 38)]) := by
              intro ls H locs hl h
              refine s_M0 C h (vp4 hc4 ha) d_M_toCore_323 (fun H locs h => ?_)
              refine lv_aload_n hx hb d_M_toCore_324 rfl (lv_at hl 0 rfl) ?_
              refine lv_iload_n hx hb d_M_toCore_325 rfl (lv_at hl 3 rfl) ?_
              refine lv_iload_n hx hb d_M_toCore_326 rfl (lv_at hl 2 rfl) ?_
              refine z_callV (i := 37) C h (k_M_acknowledged l dC dI k q X (u2 (u2 (u2 M 1 (Int32.toNatClampNeg ((4 * co) + a)) v) 2 (Int32.toNatClampNeg ((4 * co) + a)) nn) 0 (Int32.toNatClampNeg ((4 * co) + a)) (jS0_M_toCore_323_1 X M w a co r nn v)) co a hc4 ha) co_M_acknowledged ml_M_133 im_M_acknowledged se_M_acknowledged in_M rfl rfl hd_M_acknowledged ⟨by decide, by decide⟩ ⟨Nat.zero_le _, Nat.zero_le _⟩ hl.1 (Nat.le_of_ble_eq_true rfl) d_M_toCore_327 rfl (fun H locs h => ?_)
              refine W.eq (g2 := F0 m 330 ls []) rfl ?_
              have h : zH dC dI k q X (m_M_acknowledged X (u2 (u2 (u2 M 1 (Int32.toNatClampNeg ((4 * co) + a)) v) 2 (Int32.toNatClampNeg ((4 * co) + a)) nn) 0 (Int32.toNatClampNeg ((4 * co) + a)) (jS0_M_toCore_323_1 X M w a co r nn v)) co a) (zA q) s.heap H locs := h
              exact z_retvE C h hr hk (by first | rfl | (simp only [m_M_toCore, eq_true hh1, eq_false hh2, eq_false hh3, eq_false hh4, eq_false hh5, ↓reduceIte]; done) | (simp [m_M_toCore, eq_true hh1, eq_false hh2, eq_false hh3, eq_false hh4, eq_false hh5]; done)) (by first | rfl | (simp only [m_M_toCore, eq_true hh1, eq_false hh2, eq_false hh3, eq_false hh4, eq_false hh5, ↓reduceIte]; done) | (simp [m_M_toCore, eq_true hh1, eq_false hh2, eq_false hh3, eq_false hh4, eq_false hh5]; done)) d_M_toCore_330
            refine lv_iload hx hb d_M_toCore_309 (lv_at hl 0 rfl) ?_
            refine lv_bipush (v := 7) hx hb d_M_toCore_311 (by decide) ?_
            refine lv_icmp_ne (tgt := 321) hx hb d_M_toCore_313 (by decide) (fun hh6 => ?_) (fun hh6 => ?_)
            · skip
              refine lv_bipush (v := 6) hx hb d_M_toCore_321 (by decide) ?_
              have J := J323_1 _ _ _ (lv_sub hl [2, 3, 4, 5, 6, 7, 8, 1, 0] rfl) h
              rw [show (jS0_M_toCore_323_1 X M w a co r nn v) = 6 from (by first | (simp only [jS0_M_toCore_323_1, eq_true hh1, eq_false hh2, eq_false hh3, eq_false hh4, eq_false hh5, eq_false hh6, ↓reduceIte]; done) | (simp [jS0_M_toCore_323_1, eq_true hh1, eq_false hh2, eq_false hh3, eq_false hh4, eq_false hh5, eq_false hh6]; done))] at J
              exact J
            · skip
              refine lv_bipush (v := 8) hx hb d_M_toCore_316 (by decide) ?_
              refine lv_goto (tgt := 323) hx hb d_M_toCore_318 (by decide) ?_
              have J := J323_1 _ _ _ (lv_sub hl [2, 3, 4, 5, 6, 7, 8, 1, 0] rfl) h
              rw [show (jS0_M_toCore_323_1 X M w a co r nn v) = 8 from (by first | (simp only [jS0_M_toCore_323_1, eq_true hh1, eq_false hh2, eq_false hh3, eq_false hh4, eq_false hh5, eq_true hh6, ↓reduceIte]; done) | (simp [jS0_M_toCore_323_1, eq_true hh1, eq_false hh2, eq_false hh3, eq_false hh4, eq_false hh5, eq_true hh6]; done))] at J
              exact J
          · skip
            refine lv_aload_n hx hb d_M_toCore_277 rfl (lv_at hl 2 rfl) ?_
            refine g_M_7 C h d_M_toCore_278 ?_
            refine lv_iload hx hb d_M_toCore_281 (lv_at hl 1 rfl) ?_
            refine lv_iconst (v := 1) hx hb d_M_toCore_283 (by decide) ?_
            refine s_M0 C h (vp4 hc4 ha) d_M_toCore_284 (fun H locs h => ?_)
            refine lv_aload_n hx hb d_M_toCore_285 rfl (lv_at hl 2 rfl) ?_
            refine lv_iload_n hx hb d_M_toCore_286 rfl (lv_at hl 5 rfl) ?_
            refine lv_iload_n hx hb d_M_toCore_287 rfl (lv_at hl 4 rfl) ?_
            refine z_callV (i := 37) C h (k_M_finish l dC dI k q X (u2 (u2 M 1 (Int32.toNatClampNeg ((4 * co) + a)) v) 0 (Int32.toNatClampNeg ((4 * co) + a)) 1) co a hc4 ha) co_M_finish ml_M_136 im_M_finish se_M_finish in_M rfl rfl hd_M_finish ⟨by decide, by decide⟩ ⟨Nat.zero_le _, Nat.zero_le _⟩ hl.1 (Nat.le_of_ble_eq_true rfl) d_M_toCore_288 rfl (fun H locs h => ?_)
            refine W.eq (g2 := F0 m 291 ls []) rfl ?_
            have h : zH dC dI k q X (m_M_finish X (u2 (u2 M 1 (Int32.toNatClampNeg ((4 * co) + a)) v) 0 (Int32.toNatClampNeg ((4 * co) + a)) 1) co a) (zA q) s.heap H locs := h
            refine lv_goto (tgt := 330) hx hb d_M_toCore_291 (by decide) ?_
            exact z_retvE C h hr hk (by first | rfl | (simp only [m_M_toCore, eq_true hh1, eq_false hh2, eq_false hh3, eq_false hh4, eq_true hh5, ↓reduceIte]; done) | (simp [m_M_toCore, eq_true hh1, eq_false hh2, eq_false hh3, eq_false hh4, eq_true hh5]; done)) (by first | rfl | (simp only [m_M_toCore, eq_true hh1, eq_false hh2, eq_false hh3, eq_false hh4, eq_true hh5, ↓reduceIte]; done) | (simp [m_M_toCore, eq_true hh1, eq_false hh2, eq_false hh3, eq_false hh4, eq_true hh5]; done)) d_M_toCore_330
        · skip
          refine lv_aload_n hx hb d_M_toCore_254 rfl (lv_at hl 2 rfl) ?_
          refine g_M_7 C h d_M_toCore_255 ?_
          refine lv_iload hx hb d_M_toCore_258 (lv_at hl 1 rfl) ?_
          refine lv_iconst (v := 2) hx hb d_M_toCore_260 (by decide) ?_
          refine s_M0 C h (vp4 hc4 ha) d_M_toCore_261 (fun H locs h => ?_)
          refine lv_aload_n hx hb d_M_toCore_262 rfl (lv_at hl 2 rfl) ?_
          refine lv_iload_n hx hb d_M_toCore_263 rfl (lv_at hl 5 rfl) ?_
          refine lv_iload_n hx hb d_M_toCore_264 rfl (lv_at hl 4 rfl) ?_
          refine z_callV (i := 37) C h (k_M_finish l dC dI k q X (u2 (u2 M 1 (Int32.toNatClampNeg ((4 * co) + a)) v) 0 (Int32.toNatClampNeg ((4 * co) + a)) 2) co a hc4 ha) co_M_finish ml_M_136 im_M_finish se_M_finish in_M rfl rfl hd_M_finish ⟨by decide, by decide⟩ ⟨Nat.zero_le _, Nat.zero_le _⟩ hl.1 (Nat.le_of_ble_eq_true rfl) d_M_toCore_265 rfl (fun H locs h => ?_)
          refine W.eq (g2 := F0 m 268 ls []) rfl ?_
          have h : zH dC dI k q X (m_M_finish X (u2 (u2 M 1 (Int32.toNatClampNeg ((4 * co) + a)) v) 0 (Int32.toNatClampNeg ((4 * co) + a)) 2) co a) (zA q) s.heap H locs := h
          refine lv_goto (tgt := 330) hx hb d_M_toCore_268 (by decide) ?_
          exact z_retvE C h hr hk (by first | rfl | (simp only [m_M_toCore, eq_true hh1, eq_false hh2, eq_false hh3, eq_true hh4, ↓reduceIte]; done) | (simp [m_M_toCore, eq_true hh1, eq_false hh2, eq_false hh3, eq_true hh4]; done)) (by first | rfl | (simp only [m_M_toCore, eq_true hh1, eq_false hh2, eq_false hh3, eq_true hh4, ↓reduceIte]; done) | (simp [m_M_toCore, eq_true hh1, eq_false hh2, eq_false hh3, eq_true hh4]; done)) d_M_toCore_330
      · skip
        refine lv_aload_n hx hb d_M_toCore_205 rfl (lv_at hl 2 rfl) ?_
        refine g_M_19 C h d_M_toCore_206 ?_
        refine lv_iload hx hb d_M_toCore_209 (lv_at hl 1 rfl) ?_
        refine lv_dup2_11 hx hb d_M_toCore_211 rfl rfl ?_
        refine l_M3 C h (vp4 hc4 ha) d_M_toCore_212 ?_
        refine lv_iconst (v := 1) hx hb d_M_toCore_213 (by decide) ?_
        refine lv_iadd hx hb d_M_toCore_214 ?_
        refine s_M3 C h (vp4 hc4 ha) d_M_toCore_215 (fun H locs h => ?_)
        refine lv_iload hx hb d_M_toCore_216 (lv_at hl 0 rfl) ?_
        refine lv_bipush (v := 6) hx hb d_M_toCore_218 (by decide) ?_
        refine lv_icmp_eq (tgt := 230) hx hb d_M_toCore_220 (by decide) (fun hh7 => ?_) (fun hh7 => ?_)
        · skip
          refine lv_aload_n hx hb d_M_toCore_230 rfl (lv_at hl 2 rfl) ?_
          refine lv_iload_n hx hb d_M_toCore_231 rfl (lv_at hl 5 rfl) ?_
          refine lv_iload_n hx hb d_M_toCore_232 rfl (lv_at hl 4 rfl) ?_
          refine z_callV (i := 37) C h (k_M_acknowledged l dC dI k q X (u2 M 3 (Int32.toNatClampNeg ((4 * co) + a)) ((M 3 (Int32.toNatClampNeg ((4 * co) + a))) + 1)) co a hc4 ha) co_M_acknowledged ml_M_133 im_M_acknowledged se_M_acknowledged in_M rfl rfl hd_M_acknowledged ⟨by decide, by decide⟩ ⟨Nat.zero_le _, Nat.zero_le _⟩ hl.1 (Nat.le_of_ble_eq_true rfl) d_M_toCore_233 rfl (fun H locs h => ?_)
          refine W.eq (g2 := F0 m 236 ls []) rfl ?_
          have h : zH dC dI k q X (m_M_acknowledged X (u2 M 3 (Int32.toNatClampNeg ((4 * co) + a)) ((M 3 (Int32.toNatClampNeg ((4 * co) + a))) + 1)) co a) (zA q) s.heap H locs := h
          refine lv_goto (tgt := 330) hx hb d_M_toCore_236 (by decide) ?_
          exact z_retvE C h hr hk (by first | rfl | (simp only [m_M_toCore, eq_true hh1, eq_false hh2, eq_true hh3, eq_true hh7, ↓reduceIte]; done) | (simp [m_M_toCore, eq_true hh1, eq_false hh2, eq_true hh3, eq_true hh7]; done)) (by first | rfl | (simp only [m_M_toCore, eq_true hh1, eq_false hh2, eq_true hh3, eq_true hh7, ↓reduceIte]; done) | (simp [m_M_toCore, eq_true hh1, eq_false hh2, eq_true hh3, eq_true hh7]; done)) d_M_toCore_330
        · skip
          refine lv_iload hx hb d_M_toCore_223 (lv_at hl 0 rfl) ?_
          refine lv_bipush (v := 8) hx hb d_M_toCore_225 (by decide) ?_
          refine lv_icmp_ne (tgt := 330) hx hb d_M_toCore_227 (by decide) (fun hh8 => ?_) (fun hh8 => ?_)
          · skip
            exact z_retvE C h hr hk (by first | rfl | (simp only [m_M_toCore, eq_true hh1, eq_false hh2, eq_true hh3, eq_false hh7, eq_false hh8, ↓reduceIte]; done) | (simp [m_M_toCore, eq_true hh1, eq_false hh2, eq_true hh3, eq_false hh7, eq_false hh8]; done)) (by first | rfl | (simp only [m_M_toCore, eq_true hh1, eq_false hh2, eq_true hh3, eq_false hh7, eq_false hh8, ↓reduceIte]; done) | (simp [m_M_toCore, eq_true hh1, eq_false hh2, eq_true hh3, eq_false hh7, eq_false hh8]; done)) d_M_toCore_330
          · skip
            refine lv_aload_n hx hb d_M_toCore_230 rfl (lv_at hl 2 rfl) ?_
            refine lv_iload_n hx hb d_M_toCore_231 rfl (lv_at hl 5 rfl) ?_
            refine lv_iload_n hx hb d_M_toCore_232 rfl (lv_at hl 4 rfl) ?_
            refine z_callV (i := 37) C h (k_M_acknowledged l dC dI k q X (u2 M 3 (Int32.toNatClampNeg ((4 * co) + a)) ((M 3 (Int32.toNatClampNeg ((4 * co) + a))) + 1)) co a hc4 ha) co_M_acknowledged ml_M_133 im_M_acknowledged se_M_acknowledged in_M rfl rfl hd_M_acknowledged ⟨by decide, by decide⟩ ⟨Nat.zero_le _, Nat.zero_le _⟩ hl.1 (Nat.le_of_ble_eq_true rfl) d_M_toCore_233 rfl (fun H locs h => ?_)
            refine W.eq (g2 := F0 m 236 ls []) rfl ?_
            have h : zH dC dI k q X (m_M_acknowledged X (u2 M 3 (Int32.toNatClampNeg ((4 * co) + a)) ((M 3 (Int32.toNatClampNeg ((4 * co) + a))) + 1)) co a) (zA q) s.heap H locs := h
            refine lv_goto (tgt := 330) hx hb d_M_toCore_236 (by decide) ?_
            exact z_retvE C h hr hk (by first | rfl | (simp only [m_M_toCore, eq_true hh1, eq_false hh2, eq_true hh3, eq_false hh7, eq_true hh8, ↓reduceIte]; done) | (simp [m_M_toCore, eq_true hh1, eq_false hh2, eq_true hh3, eq_false hh7, eq_true hh8]; done)) (by first | rfl | (simp only [m_M_toCore, eq_true hh1, eq_false hh2, eq_true hh3, eq_false hh7, eq_true hh8, ↓reduceIte]; done) | (simp [m_M_toCore, eq_true hh1, eq_false hh2, eq_true hh3, eq_false hh7, eq_true hh8]; done)) d_M_toCore_330
    · skip
      refine lv_aload_n hx hb d_M_toCore_188 rfl (lv_at hl 2 rfl) ?_
      refine g_M_7 C h d_M_toCore_189 ?_
      refine lv_iload hx hb d_M_toCore_192 (lv_at hl 1 rfl) ?_
      refine lv_iconst (v := 0) hx hb d_M_toCore_194 (by decide) ?_
      refine s_M0 C h (vp4 hc4 ha) d_M_toCore_195 (fun H locs h => ?_)
      refine lv_goto (tgt := 330) hx hb d_M_toCore_196 (by decide) ?_
      exact z_retvE C h hr hk (by first | rfl | (simp only [m_M_toCore, eq_true hh1, eq_true hh2, ↓reduceIte]; done) | (simp [m_M_toCore, eq_true hh1, eq_true hh2]; done)) (by first | rfl | (simp only [m_M_toCore, eq_true hh1, eq_true hh2, ↓reduceIte]; done) | (simp [m_M_toCore, eq_true hh1, eq_true hh2]; done)) d_M_toCore_330
  · skip
    refine lv_aload_n hx hb d_M_toCore_22 rfl (lv_at hl 2 rfl) ?_
    refine g_M_7 C h d_M_toCore_23 ?_
    refine lv_iload hx hb d_M_toCore_26 (lv_at hl 1 rfl) ?_
    refine lv_iload_n hx hb d_M_toCore_28 rfl (lv_at hl 3 rfl) ?_
    refine lv_iload hx hb d_M_toCore_29 (lv_at hl 0 rfl) ?_
    refine z_callS C h (k_M_becomes l dC dI k q X M w (M 0 (Int32.toNatClampNeg ((4 * co) + a)))) co_M_becomes ml_M_101 sc_M_becomes in_M hd_M_becomes ⟨by decide, by decide⟩ ⟨Nat.zero_le _, Nat.zero_le _⟩ hl.1 (Nat.le_of_ble_eq_true rfl) d_M_toCore_31 rfl (fun H locs h => ?_)
    refine W.eq (g2 := F0 m 34 ls [.int (m_bec w (M 0 (Int32.toNatClampNeg ((4 * co) + a)))), .int ((4 * co) + a), .ref (q 38)]) rfl ?_
    have h : zH dC dI k q X M (zA q) s.heap H locs := h
    refine s_M0 C h (vp4 hc4 ha) d_M_toCore_34 (fun H locs h => ?_)
    have J66_1 : ∀ (ls : Array Slot) (H : Heap) (locs : List Loc), lv_has ls 11 [(0, .ref (q 37)), (1, .int w), (2, .int a), (3, .int co), (4, .int r), (5, .int nn), (6, .int v), (7, .int ((4 * co) + a)), (8, .int (M 0 (Int32.toNatClampNeg ((4 * co) + a))))] → zH dC dI k q X (u2 M 0 (Int32.toNatClampNeg ((4 * co) + a)) (m_bec w (M 0 (Int32.toNatClampNeg ((4 * co) + a))))) (zA q) s.heap H locs → W p l e { frames := 2, cells := 0, slots := 0, locals := 53 } s m args below meth c H locs 0 0 (MQ below (zQc dC dI k q X (m_M_toCore X M w a co r nn v) none) args s 0 0 (zA q)) (F0 m 66 ls [.int (jS0_M_toCore_66_1 X M w a co r nn v)]) := by
      intro ls H locs hl h
      refine lv_istore hx hb d_M_toCore_66 hl (by decide) rfl (fun ls hl => ?_)
      have hl : lv_has ls 11 [(9, .int (jS0_M_toCore_66_1 X M w a co r nn v)), (0, .ref (q 37)), (1, .int w), (2, .int a), (3, .int co), (4, .int r), (5, .int nn), (6, .int v), (7, .int ((4 * co) + a)), (8, .int (M 0 (Int32.toNatClampNeg ((4 * co) + a))))] := hl
      have J93_1 : ∀ (ls : Array Slot) (H : Heap) (locs : List Loc), lv_has ls 11 [(0, .ref (q 37)), (1, .int w), (2, .int a), (3, .int co), (4, .int r), (5, .int nn), (6, .int v), (7, .int ((4 * co) + a)), (8, .int (M 0 (Int32.toNatClampNeg ((4 * co) + a)))), (9, .int (jS0_M_toCore_66_1 X M w a co r nn v))] → zH dC dI k q X (u2 M 0 (Int32.toNatClampNeg ((4 * co) + a)) (m_bec w (M 0 (Int32.toNatClampNeg ((4 * co) + a))))) (zA q) s.heap H locs → W p l e { frames := 2, cells := 0, slots := 0, locals := 53 } s m args below meth c H locs 0 0 (MQ below (zQc dC dI k q X (m_M_toCore X M w a co r nn v) none) args s 0 0 (zA q)) (F0 m 93 ls [.int (jS0_M_toCore_93_1 X M w a co r nn v)]) := by
        intro ls H locs hl h
        refine lv_istore hx hb d_M_toCore_93 hl (by decide) rfl (fun ls hl => ?_)
        have hl : lv_has ls 11 [(10, .int (jS0_M_toCore_93_1 X M w a co r nn v)), (0, .ref (q 37)), (1, .int w), (2, .int a), (3, .int co), (4, .int r), (5, .int nn), (6, .int v), (7, .int ((4 * co) + a)), (8, .int (M 0 (Int32.toNatClampNeg ((4 * co) + a)))), (9, .int (jS0_M_toCore_66_1 X M w a co r nn v))] := hl
        have J126_1 : ∀ (ls : Array Slot) (H : Heap) (locs : List Loc), lv_has ls 11 [(0, .ref (q 37)), (1, .int w), (2, .int a), (3, .int co), (4, .int r), (5, .int nn), (6, .int v), (7, .int ((4 * co) + a)), (8, .int (M 0 (Int32.toNatClampNeg ((4 * co) + a)))), (9, .int (jS0_M_toCore_66_1 X M w a co r nn v)), (10, .int (jS0_M_toCore_93_1 X M w a co r nn v))] → zH dC dI k q X (jM_M_toCore_126_1 X M w a co r nn v) (zA q) s.heap H locs → W p l e { frames := 2, cells := 0, slots := 0, locals := 53 } s m args below meth c H locs 0 0 (MQ below (zQc dC dI k q X (m_M_toCore X M w a co r nn v) none) args s 0 0 (zA q)) (F0 m 126 ls []) := by
          intro ls H locs hl h
          have hqjM_M_toCore_126_1 : zRow (jM_M_toCore_126_1 X M w a co r nn v) (n + 1) := (zRow.ite (zRow.wk (zRow.up (by decide) (zRow.of hn)) (by omega)) (zRow.ite (zRow.wk (zRow.up (by decide) (zRow.of hn)) (by omega)) (zRow.wk (zRow.next (zRow.up (by decide) (zRow.of hn))) (by omega))))
          have J155_1 : ∀ (ls : Array Slot) (H : Heap) (locs : List Loc), lv_has ls 11 [(0, .ref (q 37)), (1, .int w), (2, .int a), (3, .int co), (4, .int r), (5, .int nn), (6, .int v), (7, .int ((4 * co) + a)), (8, .int (M 0 (Int32.toNatClampNeg ((4 * co) + a)))), (9, .int (jS0_M_toCore_66_1 X M w a co r nn v)), (10, .int (jS0_M_toCore_93_1 X M w a co r nn v))] → zH dC dI k q X (jM_M_toCore_155_1 X M w a co r nn v) (zA q) s.heap H locs → W p l e { frames := 2, cells := 0, slots := 0, locals := 53 } s m args below meth c H locs 0 0 (MQ below (zQc dC dI k q X (m_M_toCore X M w a co r nn v) none) args s 0 0 (zA q)) (F0 m 155 ls []) := by
            intro ls H locs hl h
            have hqjM_M_toCore_155_1 : zRow (jM_M_toCore_155_1 X M w a co r nn v) (n + 2) := (zRow.ite (zRow.ite (zRow.wk hqjM_M_toCore_126_1 (by omega)) (zRow.wk (zRow.next hqjM_M_toCore_126_1) (by omega))) (zRow.wk hqjM_M_toCore_126_1 (by omega)))
            have J179_1 : ∀ (ls : Array Slot) (H : Heap) (locs : List Loc), lv_has ls 11 [(0, .ref (q 37)), (1, .int w), (2, .int a), (3, .int co), (4, .int r), (5, .int nn), (6, .int v), (7, .int ((4 * co) + a)), (8, .int (M 0 (Int32.toNatClampNeg ((4 * co) + a)))), (9, .int (jS0_M_toCore_66_1 X M w a co r nn v)), (10, .int (jS0_M_toCore_93_1 X M w a co r nn v))] → zH dC dI k q X (jM_M_toCore_179_1 X M w a co r nn v) (zA q) s.heap H locs → W p l e { frames := 2, cells := 0, slots := 0, locals := 53 } s m args below meth c H locs 0 0 (MQ below (zQc dC dI k q X (m_M_toCore X M w a co r nn v) none) args s 0 0 (zA q)) (F0 m 179 ls []) := by
              intro ls H locs hl h
              have hqjM_M_toCore_179_1 : zRow (jM_M_toCore_179_1 X M w a co r nn v) (n + 3) := (zRow.ite (zRow.ite (zRow.wk hqjM_M_toCore_155_1 (by omega)) (zRow.wk (zRow.next hqjM_M_toCore_155_1) (by omega))) (zRow.wk hqjM_M_toCore_155_1 (by omega)))
              refine lv_goto (tgt := 330) hx hb d_M_toCore_179 (by decide) ?_
              exact z_retvE C h hr hk (by first | rfl | (simp only [m_M_toCore, eq_false hh1, ↓reduceIte]; done) | (simp [m_M_toCore, eq_false hh1]; done)) (by first | rfl | (simp only [m_M_toCore, eq_false hh1, ↓reduceIte]; done) | (simp [m_M_toCore, eq_false hh1]; done)) d_M_toCore_330
            refine lv_iload_n hx hb d_M_toCore_155 rfl (lv_at hl 1 rfl) ?_
            refine lv_bipush (v := 7) hx hb d_M_toCore_156 (by decide) ?_
            refine lv_icmp_ne (tgt := 179) hx hb d_M_toCore_158 (by decide) (fun hh9 => ?_) (fun hh9 => ?_)
            · skip
              exact J179_1 _ _ _ (lv_sub hl [0, 1, 2, 3, 4, 5, 6, 7, 8, 9, 10] rfl) (by rw [show (jM_M_toCore_179_1 X M w a co r nn v) = (jM_M_toCore_155_1 X M w a co r nn v) from (by first | (simp only [jM_M_toCore_179_1, eq_false hh1, eq_false hh9, ↓reduceIte]; done) | (simp [jM_M_toCore_179_1, eq_false hh1, eq_false hh9]; done))]; exact h)
            · skip
              refine lv_iload hx hb d_M_toCore_161 (lv_at hl 10 rfl) ?_
              refine lv_if_eq (tgt := 179) hx hb d_M_toCore_163 (by decide) (fun hh10 => ?_) (fun hh10 => ?_)
              · skip
                exact J179_1 _ _ _ (lv_sub hl [0, 1, 2, 3, 4, 5, 6, 7, 8, 9, 10] rfl) (by rw [show (jM_M_toCore_179_1 X M w a co r nn v) = (jM_M_toCore_155_1 X M w a co r nn v) from (by first | (simp only [jM_M_toCore_179_1, eq_false hh1, eq_true hh9, eq_true hh10, ↓reduceIte]; done) | (simp [jM_M_toCore_179_1, eq_false hh1, eq_true hh9, eq_true hh10]; done))]; exact h)
              · skip
                refine lv_aload_n hx hb d_M_toCore_166 rfl (lv_at hl 0 rfl) ?_
                refine lv_bipush (v := 11) hx hb d_M_toCore_167 (by decide) ?_
                refine lv_iload_n hx hb d_M_toCore_169 rfl (lv_at hl 2 rfl) ?_
                refine lv_iload_n hx hb d_M_toCore_170 rfl (lv_at hl 3 rfl) ?_
                refine lv_iload hx hb d_M_toCore_171 (lv_at hl 4 rfl) ?_
                refine lv_iload hx hb d_M_toCore_173 (lv_at hl 4 rfl) ?_
                refine lv_iconst (v := 0) hx hb d_M_toCore_175 (by decide) ?_
                refine z_callV (i := 37) C h (k_M_send l dC dI k q X (jM_M_toCore_155_1 X M w a co r nn v) 11 a co r r 0 (zRow.room hqjM_M_toCore_155_1 (by omega)) (vp4 hr4 ha)) co_M_send ml_M_130 im_M_send se_M_send in_M rfl rfl hd_M_send ⟨by decide, by decide⟩ ⟨Nat.zero_le _, Nat.zero_le _⟩ hl.1 (Nat.le_of_ble_eq_true rfl) d_M_toCore_176 rfl (fun H locs h => ?_)
                refine W.eq (g2 := F0 m 179 ls []) rfl ?_
                have h : zH dC dI k q X (m_send (jM_M_toCore_155_1 X M w a co r nn v) 11 a co r r 0 0) (zA q) s.heap H locs := h
                exact J179_1 _ _ _ (lv_sub hl [0, 1, 2, 3, 4, 5, 6, 7, 8, 9, 10] rfl) (by rw [show (jM_M_toCore_179_1 X M w a co r nn v) = (m_send (jM_M_toCore_155_1 X M w a co r nn v) 11 a co r r 0 0) from (by first | (simp only [jM_M_toCore_179_1, eq_false hh1, eq_true hh9, eq_false hh10, ↓reduceIte]; done) | (simp [jM_M_toCore_179_1, eq_false hh1, eq_true hh9, eq_false hh10]; done))]; exact h)
          refine lv_iload_n hx hb d_M_toCore_126 rfl (lv_at hl 1 rfl) ?_
          refine lv_iconst (v := 5) hx hb d_M_toCore_127 (by decide) ?_
          refine lv_icmp_ne (tgt := 155) hx hb d_M_toCore_128 (by decide) (fun hh11 => ?_) (fun hh11 => ?_)
          · skip
            exact J155_1 _ _ _ (lv_sub hl [0, 1, 2, 3, 4, 5, 6, 7, 8, 9, 10] rfl) (by rw [show (jM_M_toCore_155_1 X M w a co r nn v) = (jM_M_toCore_126_1 X M w a co r nn v) from (by first | (simp only [jM_M_toCore_155_1, eq_false hh1, eq_false hh11, ↓reduceIte]; done) | (simp [jM_M_toCore_155_1, eq_false hh1, eq_false hh11]; done))]; exact h)
          · skip
            refine lv_iload hx hb d_M_toCore_131 (lv_at hl 9 rfl) ?_
            refine lv_if_eq (tgt := 155) hx hb d_M_toCore_133 (by decide) (fun hh12 => ?_) (fun hh12 => ?_)
            · skip
              exact J155_1 _ _ _ (lv_sub hl [0, 1, 2, 3, 4, 5, 6, 7, 8, 9, 10] rfl) (by rw [show (jM_M_toCore_155_1 X M w a co r nn v) = (jM_M_toCore_126_1 X M w a co r nn v) from (by first | (simp only [jM_M_toCore_155_1, eq_false hh1, eq_true hh11, eq_true hh12, ↓reduceIte]; done) | (simp [jM_M_toCore_155_1, eq_false hh1, eq_true hh11, eq_true hh12]; done))]; exact h)
            · skip
              refine lv_aload_n hx hb d_M_toCore_136 rfl (lv_at hl 0 rfl) ?_
              refine lv_bipush (v := 9) hx hb d_M_toCore_137 (by decide) ?_
              refine lv_iload_n hx hb d_M_toCore_139 rfl (lv_at hl 2 rfl) ?_
              refine lv_iload_n hx hb d_M_toCore_140 rfl (lv_at hl 3 rfl) ?_
              refine lv_iconst (v := 4) hx hb d_M_toCore_141 (by decide) ?_
              refine lv_iload hx hb d_M_toCore_142 (lv_at hl 4 rfl) ?_
              refine lv_iconst (v := 0) hx hb d_M_toCore_144 (by decide) ?_
              refine lv_aload_n hx hb d_M_toCore_145 rfl (lv_at hl 0 rfl) ?_
              refine g_M_13 C h d_M_toCore_146 ?_
              refine lv_iload hx hb d_M_toCore_149 (lv_at hl 7 rfl) ?_
              refine l_M1 C h (vp4 hc4 ha) d_M_toCore_151 ?_
              refine z_callV (i := 37) C h (k_M_sendWith l dC dI k q X (jM_M_toCore_126_1 X M w a co r nn v) 9 a co 4 r 0 ((jM_M_toCore_126_1 X M w a co r nn v) 1 (Int32.toNatClampNeg ((4 * co) + a))) (zRow.room hqjM_M_toCore_126_1 (by omega)) (vp4 hr4 ha)) co_M_sendWith ml_M_77 im_M_sendWith se_M_sendWith in_M rfl rfl hd_M_sendWith ⟨by decide, by decide⟩ ⟨Nat.zero_le _, Nat.zero_le _⟩ hl.1 (Nat.le_of_ble_eq_true rfl) d_M_toCore_152 rfl (fun H locs h => ?_)
              refine W.eq (g2 := F0 m 155 ls []) rfl ?_
              have h : zH dC dI k q X (m_send (jM_M_toCore_126_1 X M w a co r nn v) 9 a co 4 r 0 ((jM_M_toCore_126_1 X M w a co r nn v) 1 (Int32.toNatClampNeg ((4 * co) + a)))) (zA q) s.heap H locs := h
              exact J155_1 _ _ _ (lv_sub hl [0, 1, 2, 3, 4, 5, 6, 7, 8, 9, 10] rfl) (by rw [show (jM_M_toCore_155_1 X M w a co r nn v) = (m_send (jM_M_toCore_126_1 X M w a co r nn v) 9 a co 4 r 0 ((jM_M_toCore_126_1 X M w a co r nn v) 1 (Int32.toNatClampNeg ((4 * co) + a)))) from (by first | (simp only [jM_M_toCore_155_1, eq_false hh1, eq_true hh11, eq_false hh12, ↓reduceIte]; done) | (simp [jM_M_toCore_155_1, eq_false hh1, eq_true hh11, eq_false hh12]; done))]; exact h)
        refine lv_iload_n hx hb d_M_toCore_95 rfl (lv_at hl 2 rfl) ?_
        refine lv_bipush (v := 7) hx hb d_M_toCore_96 (by decide) ?_
        refine lv_icmp_ge (tgt := 126) hx hb d_M_toCore_98 (by decide) (fun hh13 => ?_) (fun hh13 => ?_)
        · skip
          exact J126_1 _ _ _ (lv_sub hl [1, 2, 3, 4, 5, 6, 7, 8, 9, 10, 0] rfl) (by rw [show (jM_M_toCore_126_1 X M w a co r nn v) = (u2 M 0 (Int32.toNatClampNeg ((4 * co) + a)) (m_bec w (M 0 (Int32.toNatClampNeg ((4 * co) + a))))) from (by first | (simp only [jM_M_toCore_126_1, eq_false hh1, eq_true hh13, ↓reduceIte]; done) | (simp [jM_M_toCore_126_1, eq_false hh1, eq_true hh13]; done))]; exact h)
        · skip
          refine lv_iload hx hb d_M_toCore_101 (lv_at hl 10 rfl) ?_
          refine lv_if_eq (tgt := 126) hx hb d_M_toCore_103 (by decide) (fun hh14 => ?_) (fun hh14 => ?_)
          · skip
            exact J126_1 _ _ _ (lv_sub hl [1, 2, 3, 4, 5, 6, 7, 8, 9, 10, 0] rfl) (by rw [show (jM_M_toCore_126_1 X M w a co r nn v) = (u2 M 0 (Int32.toNatClampNeg ((4 * co) + a)) (m_bec w (M 0 (Int32.toNatClampNeg ((4 * co) + a))))) from (by first | (simp only [jM_M_toCore_126_1, eq_false hh1, eq_false hh13, eq_true hh14, ↓reduceIte]; done) | (simp [jM_M_toCore_126_1, eq_false hh1, eq_false hh13, eq_true hh14]; done))]; exact h)
          · skip
            refine lv_aload_n hx hb d_M_toCore_106 rfl (lv_at hl 1 rfl) ?_
            refine lv_bipush (v := 9) hx hb d_M_toCore_107 (by decide) ?_
            refine lv_iload_n hx hb d_M_toCore_109 rfl (lv_at hl 3 rfl) ?_
            refine lv_iload_n hx hb d_M_toCore_110 rfl (lv_at hl 4 rfl) ?_
            refine lv_iload hx hb d_M_toCore_111 (lv_at hl 5 rfl) ?_
            refine lv_iload hx hb d_M_toCore_113 (lv_at hl 5 rfl) ?_
            refine lv_iconst (v := 0) hx hb d_M_toCore_115 (by decide) ?_
            refine lv_aload_n hx hb d_M_toCore_116 rfl (lv_at hl 1 rfl) ?_
            refine g_M_13 C h d_M_toCore_117 ?_
            refine lv_iload hx hb d_M_toCore_120 (lv_at hl 8 rfl) ?_
            refine l_M1 C h (vp4 hc4 ha) d_M_toCore_122 ?_
            refine z_top (y := M 1 (Int32.toNatClampNeg ((4 * co) + a))) rfl ?_
            refine z_callV (i := 37) C h (k_M_sendWith l dC dI k q X (u2 M 0 (Int32.toNatClampNeg ((4 * co) + a)) (m_bec w (M 0 (Int32.toNatClampNeg ((4 * co) + a))))) 9 a co r r 0 (M 1 (Int32.toNatClampNeg ((4 * co) + a))) (zRow.room (zRow.up (by decide) (zRow.of hn)) (by omega)) (vp4 hr4 ha)) co_M_sendWith ml_M_77 im_M_sendWith se_M_sendWith in_M rfl rfl hd_M_sendWith ⟨by decide, by decide⟩ ⟨Nat.zero_le _, Nat.zero_le _⟩ hl.1 (Nat.le_of_ble_eq_true rfl) d_M_toCore_123 rfl (fun H locs h => ?_)
            refine W.eq (g2 := F0 m 126 ls []) rfl ?_
            have h : zH dC dI k q X (m_send (u2 M 0 (Int32.toNatClampNeg ((4 * co) + a)) (m_bec w (M 0 (Int32.toNatClampNeg ((4 * co) + a))))) 9 a co r r 0 (M 1 (Int32.toNatClampNeg ((4 * co) + a)))) (zA q) s.heap H locs := h
            exact J126_1 _ _ _ (lv_sub hl [1, 2, 3, 4, 5, 6, 7, 8, 9, 10, 0] rfl) (by rw [show (jM_M_toCore_126_1 X M w a co r nn v) = (m_send (u2 M 0 (Int32.toNatClampNeg ((4 * co) + a)) (m_bec w (M 0 (Int32.toNatClampNeg ((4 * co) + a))))) 9 a co r r 0 (M 1 (Int32.toNatClampNeg ((4 * co) + a)))) from (by first | (simp only [jM_M_toCore_126_1, eq_false hh1, eq_false hh13, eq_false hh14, ↓reduceIte]; done) | (simp [jM_M_toCore_126_1, eq_false hh1, eq_false hh13, eq_false hh14]; done))]; exact h)
      refine lv_iload hx hb d_M_toCore_68 (lv_at hl 9 rfl) ?_
      refine lv_iconst (v := 1) hx hb d_M_toCore_70 (by decide) ?_
      refine lv_icmp_eq (tgt := 88) hx hb d_M_toCore_71 (by decide) (fun hh15 => ?_) (fun hh15 => ?_)
      · skip
        refine lv_iconst (v := 1) hx hb d_M_toCore_88 (by decide) ?_
        refine lv_goto (tgt := 93) hx hb d_M_toCore_89 (by decide) ?_
        have J := J93_1 _ _ _ (lv_sub hl [1, 2, 3, 4, 5, 6, 7, 8, 9, 0] rfl) h
        rw [show (jS0_M_toCore_93_1 X M w a co r nn v) = 1 from (by first | (simp only [jS0_M_toCore_93_1, eq_false hh1, eq_true hh15, ↓reduceIte]; done) | (simp [jS0_M_toCore_93_1, eq_false hh1, eq_true hh15]; done))] at J
        exact J
      · skip
        refine lv_iload hx hb d_M_toCore_74 (lv_at hl 9 rfl) ?_
        refine lv_bipush (v := 7) hx hb d_M_toCore_76 (by decide) ?_
        refine lv_icmp_eq (tgt := 88) hx hb d_M_toCore_78 (by decide) (fun hh16 => ?_) (fun hh16 => ?_)
        · skip
          refine lv_iconst (v := 1) hx hb d_M_toCore_88 (by decide) ?_
          refine lv_goto (tgt := 93) hx hb d_M_toCore_89 (by decide) ?_
          have J := J93_1 _ _ _ (lv_sub hl [1, 2, 3, 4, 5, 6, 7, 8, 9, 0] rfl) h
          rw [show (jS0_M_toCore_93_1 X M w a co r nn v) = 1 from (by first | (simp only [jS0_M_toCore_93_1, eq_false hh1, eq_false hh15, eq_true hh16, ↓reduceIte]; done) | (simp [jS0_M_toCore_93_1, eq_false hh1, eq_false hh15, eq_true hh16]; done))] at J
          exact J
        · skip
          refine lv_iload hx hb d_M_toCore_81 (lv_at hl 9 rfl) ?_
          refine lv_bipush (v := 11) hx hb d_M_toCore_83 (by decide) ?_
          refine lv_icmp_ne (tgt := 92) hx hb d_M_toCore_85 (by decide) (fun hh17 => ?_) (fun hh17 => ?_)
          · skip
            refine lv_iconst (v := 0) hx hb d_M_toCore_92 (by decide) ?_
            have J := J93_1 _ _ _ (lv_sub hl [1, 2, 3, 4, 5, 6, 7, 8, 9, 0] rfl) h
            rw [show (jS0_M_toCore_93_1 X M w a co r nn v) = 0 from (by first | (simp only [jS0_M_toCore_93_1, eq_false hh1, eq_false hh15, eq_false hh16, eq_false hh17, ↓reduceIte]; done) | (simp [jS0_M_toCore_93_1, eq_false hh1, eq_false hh15, eq_false hh16, eq_false hh17]; done))] at J
            exact J
          · skip
            refine lv_iconst (v := 1) hx hb d_M_toCore_88 (by decide) ?_
            refine lv_goto (tgt := 93) hx hb d_M_toCore_89 (by decide) ?_
            have J := J93_1 _ _ _ (lv_sub hl [1, 2, 3, 4, 5, 6, 7, 8, 9, 0] rfl) h
            rw [show (jS0_M_toCore_93_1 X M w a co r nn v) = 1 from (by first | (simp only [jS0_M_toCore_93_1, eq_false hh1, eq_false hh15, eq_false hh16, eq_true hh17, ↓reduceIte]; done) | (simp [jS0_M_toCore_93_1, eq_false hh1, eq_false hh15, eq_false hh16, eq_true hh17]; done))] at J
            exact J
    refine lv_iload hx hb d_M_toCore_35 (lv_at hl 0 rfl) ?_
    refine lv_iconst (v := 2) hx hb d_M_toCore_37 (by decide) ?_
    refine lv_icmp_eq (tgt := 61) hx hb d_M_toCore_38 (by decide) (fun hh18 => ?_) (fun hh18 => ?_)
    · skip
      refine lv_iconst (v := 1) hx hb d_M_toCore_61 (by decide) ?_
      refine lv_goto (tgt := 66) hx hb d_M_toCore_62 (by decide) ?_
      have J := J66_1 _ _ _ (lv_sub hl [2, 3, 4, 5, 6, 7, 8, 1, 0] rfl) h
      rw [show (jS0_M_toCore_66_1 X M w a co r nn v) = 1 from (by first | (simp only [jS0_M_toCore_66_1, eq_false hh1, eq_true hh18, ↓reduceIte]; done) | (simp [jS0_M_toCore_66_1, eq_false hh1, eq_true hh18]; done))] at J
      exact J
    · skip
      refine lv_iload hx hb d_M_toCore_41 (lv_at hl 0 rfl) ?_
      refine lv_iconst (v := 3) hx hb d_M_toCore_43 (by decide) ?_
      refine lv_icmp_eq (tgt := 61) hx hb d_M_toCore_44 (by decide) (fun hh19 => ?_) (fun hh19 => ?_)
      · skip
        refine lv_iconst (v := 1) hx hb d_M_toCore_61 (by decide) ?_
        refine lv_goto (tgt := 66) hx hb d_M_toCore_62 (by decide) ?_
        have J := J66_1 _ _ _ (lv_sub hl [2, 3, 4, 5, 6, 7, 8, 1, 0] rfl) h
        rw [show (jS0_M_toCore_66_1 X M w a co r nn v) = 1 from (by first | (simp only [jS0_M_toCore_66_1, eq_false hh1, eq_false hh18, eq_true hh19, ↓reduceIte]; done) | (simp [jS0_M_toCore_66_1, eq_false hh1, eq_false hh18, eq_true hh19]; done))] at J
        exact J
      · skip
        refine lv_iload hx hb d_M_toCore_47 (lv_at hl 0 rfl) ?_
        refine lv_bipush (v := 9) hx hb d_M_toCore_49 (by decide) ?_
        refine lv_icmp_eq (tgt := 61) hx hb d_M_toCore_51 (by decide) (fun hh20 => ?_) (fun hh20 => ?_)
        · skip
          refine lv_iconst (v := 1) hx hb d_M_toCore_61 (by decide) ?_
          refine lv_goto (tgt := 66) hx hb d_M_toCore_62 (by decide) ?_
          have J := J66_1 _ _ _ (lv_sub hl [2, 3, 4, 5, 6, 7, 8, 1, 0] rfl) h
          rw [show (jS0_M_toCore_66_1 X M w a co r nn v) = 1 from (by first | (simp only [jS0_M_toCore_66_1, eq_false hh1, eq_false hh18, eq_false hh19, eq_true hh20, ↓reduceIte]; done) | (simp [jS0_M_toCore_66_1, eq_false hh1, eq_false hh18, eq_false hh19, eq_true hh20]; done))] at J
          exact J
        · skip
          refine lv_iload hx hb d_M_toCore_54 (lv_at hl 0 rfl) ?_
          refine lv_bipush (v := 10) hx hb d_M_toCore_56 (by decide) ?_
          refine lv_icmp_ne (tgt := 65) hx hb d_M_toCore_58 (by decide) (fun hh21 => ?_) (fun hh21 => ?_)
          · skip
            refine lv_iconst (v := 0) hx hb d_M_toCore_65 (by decide) ?_
            have J := J66_1 _ _ _ (lv_sub hl [2, 3, 4, 5, 6, 7, 8, 1, 0] rfl) h
            rw [show (jS0_M_toCore_66_1 X M w a co r nn v) = 0 from (by first | (simp only [jS0_M_toCore_66_1, eq_false hh1, eq_false hh18, eq_false hh19, eq_false hh20, eq_false hh21, ↓reduceIte]; done) | (simp [jS0_M_toCore_66_1, eq_false hh1, eq_false hh18, eq_false hh19, eq_false hh20, eq_false hh21]; done))] at J
            exact J
          · skip
            refine lv_iconst (v := 1) hx hb d_M_toCore_61 (by decide) ?_
            refine lv_goto (tgt := 66) hx hb d_M_toCore_62 (by decide) ?_
            have J := J66_1 _ _ _ (lv_sub hl [2, 3, 4, 5, 6, 7, 8, 1, 0] rfl) h
            rw [show (jS0_M_toCore_66_1 X M w a co r nn v) = 1 from (by first | (simp only [jS0_M_toCore_66_1, eq_false hh1, eq_false hh18, eq_false hh19, eq_false hh20, eq_true hh21, ↓reduceIte]; done) | (simp [jS0_M_toCore_66_1, eq_false hh1, eq_false hh18, eq_false hh19, eq_false hh20, eq_true hh21]; done))] at J
            exact J
theorem hd_M_start : y_M_start.cls ≠ "java/lang/invoke/MethodHandle" ∧ y_M_start.cls ≠ "java/lang/invoke/VarHandle" ∧ (parseMethodDescriptor y_M_start.desc).map (fun d => d.parameters.length) = some 4 := by decide +kernel
def jS0_M_start_77_1 (X : zXS) (M : zMS) (co : Int32) (a : Int32) (w : Int32) (v : Int32) : Int32 := (if w = 0 then 0 else 1)
def jS0_M_start_149_1 (X : zXS) (M : zMS) (co : Int32) (a : Int32) (w : Int32) (v : Int32) : Int32 := (if w = 0 then 4 else (if (M 0 (Int32.toNatClampNeg ((4 * co) + a))) = 1 then 7 else 5))
def jS0_M_start_160_1 (X : zXS) (M : zMS) (co : Int32) (a : Int32) (w : Int32) (v : Int32) : Int32 := (if w = 0 then 0 else 1)
def r_M_start (X : zXS) (M : zMS) (co : Int32) (a : Int32) (w : Int32) (v : Int32) : Int32 := (if (m_four co) = 0 then (-1) else (if (m_four a) = 0 then (-1) else (if (M 5 (Int32.toNatClampNeg co)) = 0 then (if (M 0 (Int32.toNatClampNeg ((4 * co) + a))) ≤ 3 then (if (M 0 (Int32.toNatClampNeg ((4 * co) + a))) ≤ (jS0_M_start_77_1 X M co a w v) then 0 else 1) else (-2)) else (-2))))
def m_M_start (X : zXS) (M : zMS) (co : Int32) (a : Int32) (w : Int32) (v : Int32) : zMS := (if (m_four co) = 0 then M else (if (m_four a) = 0 then M else (if (M 5 (Int32.toNatClampNeg co)) = 0 then (if (M 0 (Int32.toNatClampNeg ((4 * co) + a))) ≤ 3 then (if (M 0 (Int32.toNatClampNeg ((4 * co) + a))) ≤ (jS0_M_start_77_1 X M co a w v) then (m_send (u2 (u2 (u2 (u2 (u2 (u2 (u2 M 7 (Int32.toNatClampNeg co) w) 8 (Int32.toNatClampNeg co) v) 5 (Int32.toNatClampNeg co) 1) 6 (Int32.toNatClampNeg co) a) 3 (Int32.toNatClampNeg ((4 * co) + a)) 0) 2 (Int32.toNatClampNeg ((4 * co) + a)) 0) 0 (Int32.toNatClampNeg ((4 * co) + a)) (jS0_M_start_149_1 X M co a w v)) (jS0_M_start_160_1 X M co a w v) a co 4 co 0 0) else (m_M_finish X (u2 (u2 M 7 (Int32.toNatClampNeg co) w) 8 (Int32.toNatClampNeg co) v) co a)) else M) else M)))
set_option maxHeartbeats 1000000 in
set_option maxRecDepth 100000 in
theorem k_M_start (l : Launch) (dC : Nat → ClassId) (dI : Nat → Nat → Nat) (k : Nat → ClassId) (q : Nat → Nat) (X : zXS) (M : zMS) (co : Int32) (a : Int32) (w : Int32) (v : Int32)  (n : Nat) (hn : M 15 0 = nI n) (hb9 : n + 8 < 200) : zMet l dC dI k q y_M_start c_M_start 6 (some .int) 2 53 [.ref (q 37), .int co, .int a, .int w, .int v] (some (.int (r_M_start X M co a w v))) X M X (m_M_start X M co a w v) := by
  refine zMet.of (by decide) (Nat.le_of_ble_eq_true rfl) ?_
  intro p e s m args below meth c ls C hr hk hl h
  have hx := C.1
  have hb := C.2.1
  have hl : lv_has ls 6 [(0, .ref (q 37)), (1, .int co), (2, .int a), (3, .int w), (4, .int v)] := hl
  refine lv_iload_n hx hb d_M_start_0 rfl (lv_at hl 1 rfl) ?_
  refine z_callS C h (k_M_isFour l dC dI k q X M co) co_M_isFour ml_M_139 sc_M_isFour in_M hd_M_isFour ⟨by decide, by decide⟩ ⟨Nat.zero_le _, Nat.zero_le _⟩ hl.1 (Nat.le_of_ble_eq_true rfl) d_M_start_1 rfl (fun H locs h => ?_)
  refine W.eq (g2 := F0 m 4 ls [.int (m_four co)]) rfl ?_
  have h : zH dC dI k q X M (zA q) s.heap H locs := h
  refine lv_if_eq (tgt := 14) hx hb d_M_start_4 (by decide) (fun hh1 => ?_) (fun hh1 => ?_)
  · skip
    refine lv_iconst (v := -1) hx hb d_M_start_14 (by decide) ?_
    exact z_retE C h hr hk (by first | rfl | (simp only [r_M_start, m_M_start, eq_true hh1, ↓reduceIte]; done) | (simp [r_M_start, m_M_start, eq_true hh1]; done)) (by first | rfl | (simp only [r_M_start, m_M_start, eq_true hh1, ↓reduceIte]; done) | (simp [r_M_start, m_M_start, eq_true hh1]; done)) (by first | rfl | (simp only [r_M_start, m_M_start, eq_true hh1, ↓reduceIte]; done) | (simp [r_M_start, m_M_start, eq_true hh1]; done)) d_M_start_15
  · skip
    refine lv_iload_n hx hb d_M_start_7 rfl (lv_at hl 2 rfl) ?_
    refine z_callS C h (k_M_isFour l dC dI k q X M a) co_M_isFour ml_M_139 sc_M_isFour in_M hd_M_isFour ⟨by decide, by decide⟩ ⟨Nat.zero_le _, Nat.zero_le _⟩ hl.1 (Nat.le_of_ble_eq_true rfl) d_M_start_8 rfl (fun H locs h => ?_)
    refine W.eq (g2 := F0 m 11 ls [.int (m_four a)]) rfl ?_
    have h : zH dC dI k q X M (zA q) s.heap H locs := h
    refine lv_if_ne (tgt := 16) hx hb d_M_start_11 (by decide) (fun hh2 => ?_) (fun hh2 => ?_)
    · skip
      refine lv_iconst (v := 4) hx hb d_M_start_16 (by decide) ?_
      refine lv_iload_n hx hb d_M_start_17 rfl (lv_at hl 1 rfl) ?_
      refine lv_imul hx hb d_M_start_18 ?_
      refine lv_iload_n hx hb d_M_start_19 rfl (lv_at hl 2 rfl) ?_
      refine lv_iadd hx hb d_M_start_20 ?_
      refine lv_istore hx hb d_M_start_21 hl (by decide) rfl (fun ls hl => ?_)
      have hl : lv_has ls 6 [(5, .int ((4 * co) + a)), (0, .ref (q 37)), (1, .int co), (2, .int a), (3, .int w), (4, .int v)] := hl
      refine lv_aload_n hx hb d_M_start_23 rfl (lv_at hl 1 rfl) ?_
      refine g_M_25 C h d_M_start_24 ?_
      refine lv_iload_n hx hb d_M_start_27 rfl (lv_at hl 2 rfl) ?_
      refine l_M5 C h (four_in hh1) d_M_start_28 ?_
      refine lv_if_ne (tgt := 43) hx hb d_M_start_29 (by decide) (fun hh3 => ?_) (fun hh3 => ?_)
      · skip
        refine lv_bipush (v := -2) hx hb d_M_start_43 (by decide) ?_
        exact z_retE C h hr hk (by first | rfl | (simp only [r_M_start, m_M_start, eq_false hh1, eq_false hh2, eq_false hh3, ↓reduceIte]; done) | (simp [r_M_start, m_M_start, eq_false hh1, eq_false hh2, eq_false hh3]; done)) (by first | rfl | (simp only [r_M_start, m_M_start, eq_false hh1, eq_false hh2, eq_false hh3, ↓reduceIte]; done) | (simp [r_M_start, m_M_start, eq_false hh1, eq_false hh2, eq_false hh3]; done)) (by first | rfl | (simp only [r_M_start, m_M_start, eq_false hh1, eq_false hh2, eq_false hh3, ↓reduceIte]; done) | (simp [r_M_start, m_M_start, eq_false hh1, eq_false hh2, eq_false hh3]; done)) d_M_start_45
      · skip
        refine lv_aload_n hx hb d_M_start_32 rfl (lv_at hl 1 rfl) ?_
        refine g_M_7 C h d_M_start_33 ?_
        refine lv_iload hx hb d_M_start_36 (lv_at hl 0 rfl) ?_
        refine l_M0 C h (vp4 (four_in hh1) (four_in hh2)) d_M_start_38 ?_
        refine lv_iconst (v := 3) hx hb d_M_start_39 (by decide) ?_
        refine lv_icmp_le (tgt := 46) hx hb d_M_start_40 (by decide) (fun hh4 => ?_) (fun hh4 => ?_)
        · skip
          refine lv_aload_n hx hb d_M_start_46 rfl (lv_at hl 1 rfl) ?_
          refine g_M_32 C h d_M_start_47 ?_
          refine lv_iload_n hx hb d_M_start_50 rfl (lv_at hl 2 rfl) ?_
          refine lv_iload_n hx hb d_M_start_51 rfl (lv_at hl 4 rfl) ?_
          refine s_M7 C h (four_in hh1) d_M_start_52 (fun H locs h => ?_)
          refine lv_aload_n hx hb d_M_start_53 rfl (lv_at hl 1 rfl) ?_
          refine g_M_35 C h d_M_start_54 ?_
          refine lv_iload_n hx hb d_M_start_57 rfl (lv_at hl 2 rfl) ?_
          refine lv_iload hx hb d_M_start_58 (lv_at hl 5 rfl) ?_
          refine s_M8 C h (four_in hh1) d_M_start_60 (fun H locs h => ?_)
          refine lv_aload_n hx hb d_M_start_61 rfl (lv_at hl 1 rfl) ?_
          refine g_M_7 C h d_M_start_62 ?_
          refine lv_iload hx hb d_M_start_65 (lv_at hl 0 rfl) ?_
          refine l_M0 C h (vp4 (four_in hh1) (four_in hh2)) d_M_start_67 ?_
          refine z_top (y := M 0 (Int32.toNatClampNeg ((4 * co) + a))) rfl ?_
          have J77_1 : ∀ (ls : Array Slot) (H : Heap) (locs : List Loc), lv_has ls 6 [(0, .ref (q 37)), (1, .int co), (2, .int a), (3, .int w), (4, .int v), (5, .int ((4 * co) + a))] → zH dC dI k q X (u2 (u2 M 7 (Int32.toNatClampNeg co) w) 8 (Int32.toNatClampNeg co) v) (zA q) s.heap H locs → W p l e { frames := 2, cells := 0, slots := 0, locals := 53 } s m args below meth c H locs 0 0 (MQ below (zQc dC dI k q X (m_M_start X M co a w v) (some (.int (r_M_start X M co a w v)))) args s 0 0 (zA q)) (F0 m 77 ls [.int (jS0_M_start_77_1 X M co a w v), .int (M 0 (Int32.toNatClampNeg ((4 * co) + a)))]) := by
            intro ls H locs hl h
            refine lv_icmp_le (tgt := 88) hx hb d_M_start_77 (by decide) (fun hh5 => ?_) (fun hh5 => ?_)
            · skip
              refine lv_aload_n hx hb d_M_start_88 rfl (lv_at hl 0 rfl) ?_
              refine g_M_25 C h d_M_start_89 ?_
              refine lv_iload_n hx hb d_M_start_92 rfl (lv_at hl 1 rfl) ?_
              refine lv_iconst (v := 1) hx hb d_M_start_93 (by decide) ?_
              refine s_M5 C h (four_in hh1) (Or.inr rfl) d_M_start_94 (fun H locs h => ?_)
              refine lv_aload_n hx hb d_M_start_95 rfl (lv_at hl 0 rfl) ?_
              refine g_M_29 C h d_M_start_96 ?_
              refine lv_iload_n hx hb d_M_start_99 rfl (lv_at hl 1 rfl) ?_
              refine lv_iload_n hx hb d_M_start_100 rfl (lv_at hl 2 rfl) ?_
              refine s_M6 C h (four_in hh1) d_M_start_101 (fun H locs h => ?_)
              refine lv_aload_n hx hb d_M_start_102 rfl (lv_at hl 0 rfl) ?_
              refine g_M_19 C h d_M_start_103 ?_
              refine lv_iload hx hb d_M_start_106 (lv_at hl 5 rfl) ?_
              refine lv_iconst (v := 0) hx hb d_M_start_108 (by decide) ?_
              refine s_M3 C h (vp4 (four_in hh1) (four_in hh2)) d_M_start_109 (fun H locs h => ?_)
              refine lv_aload_n hx hb d_M_start_110 rfl (lv_at hl 0 rfl) ?_
              refine g_M_16 C h d_M_start_111 ?_
              refine lv_iload hx hb d_M_start_114 (lv_at hl 5 rfl) ?_
              refine lv_iconst (v := 0) hx hb d_M_start_116 (by decide) ?_
              refine s_M2 C h (vp4 (four_in hh1) (four_in hh2)) d_M_start_117 (fun H locs h => ?_)
              refine lv_aload_n hx hb d_M_start_118 rfl (lv_at hl 0 rfl) ?_
              refine g_M_7 C h d_M_start_119 ?_
              refine lv_iload hx hb d_M_start_122 (lv_at hl 5 rfl) ?_
              have J149_1 : ∀ (ls : Array Slot) (H : Heap) (locs : List Loc), lv_has ls 6 [(0, .ref (q 37)), (1, .int co), (2, .int a), (3, .int w), (4, .int v), (5, .int ((4 * co) + a))] → zH dC dI k q X (u2 (u2 (u2 (u2 (u2 (u2 M 7 (Int32.toNatClampNeg co) w) 8 (Int32.toNatClampNeg co) v) 5 (Int32.toNatClampNeg co) 1) 6 (Int32.toNatClampNeg co) a) 3 (Int32.toNatClampNeg ((4 * co) + a)) 0) 2 (Int32.toNatClampNeg ((4 * co) + a)) 0) (zA q) s.heap H locs → W p l e { frames := 2, cells := 0, slots := 0, locals := 53 } s m args below meth c H locs 0 0 (MQ below (zQc dC dI k q X (m_M_start X M co a w v) (some (.int (r_M_start X M co a w v)))) args s 0 0 (zA q)) (F0 m 149 ls [.int (jS0_M_start_149_1 X M co a w v), .int ((4 * co) + a), .ref (q 38)]) := by
                intro ls H locs hl h
                refine s_M0 C h (vp4 (four_in hh1) (four_in hh2)) d_M_start_149 (fun H locs h => ?_)
                refine lv_aload_n hx hb d_M_start_150 rfl (lv_at hl 0 rfl) ?_
                have J160_1 : ∀ (ls : Array Slot) (H : Heap) (locs : List Loc), lv_has ls 6 [(0, .ref (q 37)), (1, .int co), (2, .int a), (3, .int w), (4, .int v), (5, .int ((4 * co) + a))] → zH dC dI k q X (u2 (u2 (u2 (u2 (u2 (u2 (u2 M 7 (Int32.toNatClampNeg co) w) 8 (Int32.toNatClampNeg co) v) 5 (Int32.toNatClampNeg co) 1) 6 (Int32.toNatClampNeg co) a) 3 (Int32.toNatClampNeg ((4 * co) + a)) 0) 2 (Int32.toNatClampNeg ((4 * co) + a)) 0) 0 (Int32.toNatClampNeg ((4 * co) + a)) (jS0_M_start_149_1 X M co a w v)) (zA q) s.heap H locs → W p l e { frames := 2, cells := 0, slots := 0, locals := 53 } s m args below meth c H locs 0 0 (MQ below (zQc dC dI k q X (m_M_start X M co a w v) (some (.int (r_M_start X M co a w v)))) args s 0 0 (zA q)) (F0 m 160 ls [.int (jS0_M_start_160_1 X M co a w v), .ref (q 37)]) := by
                  intro ls H locs hl h
                  refine lv_iload_n hx hb d_M_start_160 rfl (lv_at hl 2 rfl) ?_
                  refine lv_iload_n hx hb d_M_start_161 rfl (lv_at hl 1 rfl) ?_
                  refine lv_iconst (v := 4) hx hb d_M_start_162 (by decide) ?_
                  refine lv_iload_n hx hb d_M_start_163 rfl (lv_at hl 1 rfl) ?_
                  refine lv_iconst (v := 0) hx hb d_M_start_164 (by decide) ?_
                  refine z_callV (i := 37) C h (k_M_send l dC dI k q X (u2 (u2 (u2 (u2 (u2 (u2 (u2 M 7 (Int32.toNatClampNeg co) w) 8 (Int32.toNatClampNeg co) v) 5 (Int32.toNatClampNeg co) 1) 6 (Int32.toNatClampNeg co) a) 3 (Int32.toNatClampNeg ((4 * co) + a)) 0) 2 (Int32.toNatClampNeg ((4 * co) + a)) 0) 0 (Int32.toNatClampNeg ((4 * co) + a)) (jS0_M_start_149_1 X M co a w v)) (jS0_M_start_160_1 X M co a w v) a co 4 co 0 (zRow.room (zRow.up (by decide) (zRow.up (by decide) (zRow.up (by decide) (zRow.up (by decide) (zRow.up (by decide) (zRow.up (by decide) (zRow.up (by decide) (zRow.of hn)))))))) (by omega)) (vp4 (four_in hh1) (four_in hh2))) co_M_send ml_M_130 im_M_send se_M_send in_M rfl rfl hd_M_send ⟨by decide, by decide⟩ ⟨Nat.zero_le _, Nat.zero_le _⟩ hl.1 (Nat.le_of_ble_eq_true rfl) d_M_start_165 rfl (fun H locs h => ?_)
                  refine W.eq (g2 := F0 m 168 ls []) rfl ?_
                  have h : zH dC dI k q X (m_send (u2 (u2 (u2 (u2 (u2 (u2 (u2 M 7 (Int32.toNatClampNeg co) w) 8 (Int32.toNatClampNeg co) v) 5 (Int32.toNatClampNeg co) 1) 6 (Int32.toNatClampNeg co) a) 3 (Int32.toNatClampNeg ((4 * co) + a)) 0) 2 (Int32.toNatClampNeg ((4 * co) + a)) 0) 0 (Int32.toNatClampNeg ((4 * co) + a)) (jS0_M_start_149_1 X M co a w v)) (jS0_M_start_160_1 X M co a w v) a co 4 co 0 0) (zA q) s.heap H locs := h
                  refine lv_iconst (v := 0) hx hb d_M_start_168 (by decide) ?_
                  exact z_retE C h hr hk (by first | rfl | (simp only [r_M_start, m_M_start, eq_false hh1, eq_false hh2, eq_true hh3, eq_true hh4, eq_true hh5, ↓reduceIte]; done) | (simp [r_M_start, m_M_start, eq_false hh1, eq_false hh2, eq_true hh3, eq_true hh4, eq_true hh5]; done)) (by first | rfl | (simp only [r_M_start, m_M_start, eq_false hh1, eq_false hh2, eq_true hh3, eq_true hh4, eq_true hh5, ↓reduceIte]; done) | (simp [r_M_start, m_M_start, eq_false hh1, eq_false hh2, eq_true hh3, eq_true hh4, eq_true hh5]; done)) (by first | rfl | (simp only [r_M_start, m_M_start, eq_false hh1, eq_false hh2, eq_true hh3, eq_true hh4, eq_true hh5, ↓reduceIte]; done) | (simp [r_M_start, m_M_start, eq_false hh1, eq_false hh2, eq_true hh3, eq_true hh4, eq_true hh5]; done)) d_M_start_169
                refine lv_iload_n hx hb d_M_start_151 rfl (lv_at hl 3 rfl) ?_
                refine lv_if_ne (tgt := 159) hx hb d_M_start_152 (by decide) (fun hh6 => ?_) (fun hh6 => ?_)
                · skip
                  refine lv_iconst (v := 1) hx hb d_M_start_159 (by decide) ?_
                  have J := J160_1 _ _ _ (lv_sub hl [0, 1, 2, 3, 4, 5] rfl) h
                  rw [show (jS0_M_start_160_1 X M co a w v) = 1 from (by first | (simp only [jS0_M_start_160_1, eq_false hh1, eq_false hh2, eq_true hh3, eq_true hh4, eq_true hh5, eq_false hh6, ↓reduceIte]; done) | (simp [jS0_M_start_160_1, eq_false hh1, eq_false hh2, eq_true hh3, eq_true hh4, eq_true hh5, eq_false hh6]; done))] at J
                  exact J
                · skip
                  refine lv_iconst (v := 0) hx hb d_M_start_155 (by decide) ?_
                  refine lv_goto (tgt := 160) hx hb d_M_start_156 (by decide) ?_
                  have J := J160_1 _ _ _ (lv_sub hl [0, 1, 2, 3, 4, 5] rfl) h
                  rw [show (jS0_M_start_160_1 X M co a w v) = 0 from (by first | (simp only [jS0_M_start_160_1, eq_false hh1, eq_false hh2, eq_true hh3, eq_true hh4, eq_true hh5, eq_true hh6, ↓reduceIte]; done) | (simp [jS0_M_start_160_1, eq_false hh1, eq_false hh2, eq_true hh3, eq_true hh4, eq_true hh5, eq_true hh6]; done))] at J
                  exact J
              refine lv_iload_n hx hb d_M_start_124 rfl (lv_at hl 3 rfl) ?_
              refine lv_if_ne (tgt := 132) hx hb d_M_start_125 (by decide) (fun hh7 => ?_) (fun hh7 => ?_)
              · skip
                refine lv_aload_n hx hb d_M_start_132 rfl (lv_at hl 0 rfl) ?_
                refine g_M_7 C h d_M_start_133 ?_
                refine lv_iload hx hb d_M_start_136 (lv_at hl 5 rfl) ?_
                refine l_M0 C h (vp4 (four_in hh1) (four_in hh2)) d_M_start_138 ?_
                refine z_top (y := M 0 (Int32.toNatClampNeg ((4 * co) + a))) rfl ?_
                refine lv_iconst (v := 1) hx hb d_M_start_139 (by decide) ?_
                refine lv_icmp_ne (tgt := 148) hx hb d_M_start_140 (by decide) (fun hh8 => ?_) (fun hh8 => ?_)
                · skip
                  refine lv_iconst (v := 5) hx hb d_M_start_148 (by decide) ?_
                  have J := J149_1 _ _ _ (lv_sub hl [0, 1, 2, 3, 4, 5] rfl) h
                  rw [show (jS0_M_start_149_1 X M co a w v) = 5 from (by first | (simp only [jS0_M_start_149_1, eq_false hh1, eq_false hh2, eq_true hh3, eq_true hh4, eq_true hh5, eq_false hh7, eq_false hh8, ↓reduceIte]; done) | (simp [jS0_M_start_149_1, eq_false hh1, eq_false hh2, eq_true hh3, eq_true hh4, eq_true hh5, eq_false hh7, eq_false hh8]; done))] at J
                  exact J
                · skip
                  refine lv_bipush (v := 7) hx hb d_M_start_143 (by decide) ?_
                  refine lv_goto (tgt := 149) hx hb d_M_start_145 (by decide) ?_
                  have J := J149_1 _ _ _ (lv_sub hl [0, 1, 2, 3, 4, 5] rfl) h
                  rw [show (jS0_M_start_149_1 X M co a w v) = 7 from (by first | (simp only [jS0_M_start_149_1, eq_false hh1, eq_false hh2, eq_true hh3, eq_true hh4, eq_true hh5, eq_false hh7, eq_true hh8, ↓reduceIte]; done) | (simp [jS0_M_start_149_1, eq_false hh1, eq_false hh2, eq_true hh3, eq_true hh4, eq_true hh5, eq_false hh7, eq_true hh8]; done))] at J
                  exact J
              · skip
                refine lv_iconst (v := 4) hx hb d_M_start_128 (by decide) ?_
                refine lv_goto (tgt := 149) hx hb d_M_start_129 (by decide) ?_
                have J := J149_1 _ _ _ (lv_sub hl [0, 1, 2, 3, 4, 5] rfl) h
                rw [show (jS0_M_start_149_1 X M co a w v) = 4 from (by first | (simp only [jS0_M_start_149_1, eq_false hh1, eq_false hh2, eq_true hh3, eq_true hh4, eq_true hh5, eq_true hh7, ↓reduceIte]; done) | (simp [jS0_M_start_149_1, eq_false hh1, eq_false hh2, eq_true hh3, eq_true hh4, eq_true hh5, eq_true hh7]; done))] at J
                exact J
            · skip
              refine lv_aload_n hx hb d_M_start_80 rfl (lv_at hl 0 rfl) ?_
              refine lv_iload_n hx hb d_M_start_81 rfl (lv_at hl 1 rfl) ?_
              refine lv_iload_n hx hb d_M_start_82 rfl (lv_at hl 2 rfl) ?_
              refine z_callV (i := 37) C h (k_M_finish l dC dI k q X (u2 (u2 M 7 (Int32.toNatClampNeg co) w) 8 (Int32.toNatClampNeg co) v) co a (four_in hh1) (four_in hh2)) co_M_finish ml_M_136 im_M_finish se_M_finish in_M rfl rfl hd_M_finish ⟨by decide, by decide⟩ ⟨Nat.zero_le _, Nat.zero_le _⟩ hl.1 (Nat.le_of_ble_eq_true rfl) d_M_start_83 rfl (fun H locs h => ?_)
              refine W.eq (g2 := F0 m 86 ls []) rfl ?_
              have h : zH dC dI k q X (m_M_finish X (u2 (u2 M 7 (Int32.toNatClampNeg co) w) 8 (Int32.toNatClampNeg co) v) co a) (zA q) s.heap H locs := h
              refine lv_iconst (v := 1) hx hb d_M_start_86 (by decide) ?_
              exact z_retE C h hr hk (by first | rfl | (simp only [r_M_start, m_M_start, eq_false hh1, eq_false hh2, eq_true hh3, eq_true hh4, eq_false hh5, ↓reduceIte]; done) | (simp [r_M_start, m_M_start, eq_false hh1, eq_false hh2, eq_true hh3, eq_true hh4, eq_false hh5]; done)) (by first | rfl | (simp only [r_M_start, m_M_start, eq_false hh1, eq_false hh2, eq_true hh3, eq_true hh4, eq_false hh5, ↓reduceIte]; done) | (simp [r_M_start, m_M_start, eq_false hh1, eq_false hh2, eq_true hh3, eq_true hh4, eq_false hh5]; done)) (by first | rfl | (simp only [r_M_start, m_M_start, eq_false hh1, eq_false hh2, eq_true hh3, eq_true hh4, eq_false hh5, ↓reduceIte]; done) | (simp [r_M_start, m_M_start, eq_false hh1, eq_false hh2, eq_true hh3, eq_true hh4, eq_false hh5]; done)) d_M_start_87
          refine lv_iload_n hx hb d_M_start_68 rfl (lv_at hl 4 rfl) ?_
          refine lv_if_ne (tgt := 76) hx hb d_M_start_69 (by decide) (fun hh9 => ?_) (fun hh9 => ?_)
          · skip
            refine lv_iconst (v := 1) hx hb d_M_start_76 (by decide) ?_
            have J := J77_1 _ _ _ (lv_sub hl [1, 2, 3, 4, 5, 0] rfl) h
            rw [show (jS0_M_start_77_1 X M co a w v) = 1 from (by first | (simp only [jS0_M_start_77_1, eq_false hh1, eq_false hh2, eq_true hh3, eq_true hh4, eq_false hh9, ↓reduceIte]; done) | (simp [jS0_M_start_77_1, eq_false hh1, eq_false hh2, eq_true hh3, eq_true hh4, eq_false hh9]; done))] at J
            exact J
          · skip
            refine lv_iconst (v := 0) hx hb d_M_start_72 (by decide) ?_
            refine lv_goto (tgt := 77) hx hb d_M_start_73 (by decide) ?_
            have J := J77_1 _ _ _ (lv_sub hl [1, 2, 3, 4, 5, 0] rfl) h
            rw [show (jS0_M_start_77_1 X M co a w v) = 0 from (by first | (simp only [jS0_M_start_77_1, eq_false hh1, eq_false hh2, eq_true hh3, eq_true hh4, eq_true hh9, ↓reduceIte]; done) | (simp [jS0_M_start_77_1, eq_false hh1, eq_false hh2, eq_true hh3, eq_true hh4, eq_true hh9]; done))] at J
            exact J
        · skip
          refine lv_bipush (v := -2) hx hb d_M_start_43 (by decide) ?_
          exact z_retE C h hr hk (by first | rfl | (simp only [r_M_start, m_M_start, eq_false hh1, eq_false hh2, eq_true hh3, eq_false hh4, ↓reduceIte]; done) | (simp [r_M_start, m_M_start, eq_false hh1, eq_false hh2, eq_true hh3, eq_false hh4]; done)) (by first | rfl | (simp only [r_M_start, m_M_start, eq_false hh1, eq_false hh2, eq_true hh3, eq_false hh4, ↓reduceIte]; done) | (simp [r_M_start, m_M_start, eq_false hh1, eq_false hh2, eq_true hh3, eq_false hh4]; done)) (by first | rfl | (simp only [r_M_start, m_M_start, eq_false hh1, eq_false hh2, eq_true hh3, eq_false hh4, ↓reduceIte]; done) | (simp [r_M_start, m_M_start, eq_false hh1, eq_false hh2, eq_true hh3, eq_false hh4]; done)) d_M_start_45
    · skip
      refine lv_iconst (v := -1) hx hb d_M_start_14 (by decide) ?_
      exact z_retE C h hr hk (by first | rfl | (simp only [r_M_start, m_M_start, eq_false hh1, eq_true hh2, ↓reduceIte]; done) | (simp [r_M_start, m_M_start, eq_false hh1, eq_true hh2]; done)) (by first | rfl | (simp only [r_M_start, m_M_start, eq_false hh1, eq_true hh2, ↓reduceIte]; done) | (simp [r_M_start, m_M_start, eq_false hh1, eq_true hh2]; done)) (by first | rfl | (simp only [r_M_start, m_M_start, eq_false hh1, eq_true hh2, ↓reduceIte]; done) | (simp [r_M_start, m_M_start, eq_false hh1, eq_true hh2]; done)) d_M_start_15
theorem hd_M_load : y_M_load.cls ≠ "java/lang/invoke/MethodHandle" ∧ y_M_load.cls ≠ "java/lang/invoke/VarHandle" ∧ (parseMethodDescriptor y_M_load.desc).map (fun d => d.parameters.length) = some 2 := by decide +kernel
def r_M_load (X : zXS) (M : zMS) (co : Int32) (a : Int32) : Int32 := (r_M_start X M co a 0 0)
def m_M_load (X : zXS) (M : zMS) (co : Int32) (a : Int32) : zMS := (m_M_start X M co a 0 0)
set_option maxHeartbeats 1000000 in
set_option maxRecDepth 100000 in
theorem k_M_load (l : Launch) (dC : Nat → ClassId) (dI : Nat → Nat → Nat) (k : Nat → ClassId) (q : Nat → Nat) (X : zXS) (M : zMS) (co : Int32) (a : Int32)  (n : Nat) (hn : M 15 0 = nI n) (hb9 : n + 8 < 200) : zMet l dC dI k q y_M_load c_M_load 3 (some .int) 3 78 [.ref (q 37), .int co, .int a] (some (.int (r_M_load X M co a))) X M X (m_M_load X M co a) := by
  refine zMet.of (by decide) (Nat.le_of_ble_eq_true rfl) ?_
  intro p e s m args below meth c ls C hr hk hl h
  have hx := C.1
  have hb := C.2.1
  have hl : lv_has ls 3 [(0, .ref (q 37)), (1, .int co), (2, .int a)] := hl
  refine lv_aload_n hx hb d_M_load_0 rfl (lv_at hl 0 rfl) ?_
  refine lv_iload_n hx hb d_M_load_1 rfl (lv_at hl 1 rfl) ?_
  refine lv_iload_n hx hb d_M_load_2 rfl (lv_at hl 2 rfl) ?_
  refine lv_iconst (v := 0) hx hb d_M_load_3 (by decide) ?_
  refine lv_iconst (v := 0) hx hb d_M_load_4 (by decide) ?_
  refine z_callV (i := 37) C h (k_M_start l dC dI k q X M co a 0 0 n hn hb9) co_M_start ml_M_142 im_M_start se_M_start in_M rfl rfl hd_M_start ⟨by decide, by decide⟩ ⟨Nat.zero_le _, Nat.zero_le _⟩ hl.1 (Nat.le_of_ble_eq_true rfl) d_M_load_5 rfl (fun H locs h => ?_)
  refine W.eq (g2 := F0 m 8 ls [.int (r_M_start X M co a 0 0)]) rfl ?_
  have h : zH dC dI k q X (m_M_start X M co a 0 0) (zA q) s.heap H locs := h
  exact z_retE C h hr hk (by first | rfl | (simp only [r_M_load, m_M_load, ↓reduceIte]; done) | (simp [r_M_load, m_M_load]; done)) (by first | rfl | (simp only [r_M_load, m_M_load, ↓reduceIte]; done) | (simp [r_M_load, m_M_load]; done)) (by first | rfl | (simp only [r_M_load, m_M_load, ↓reduceIte]; done) | (simp [r_M_load, m_M_load]; done)) d_M_load_8
theorem hd_M_store : y_M_store.cls ≠ "java/lang/invoke/MethodHandle" ∧ y_M_store.cls ≠ "java/lang/invoke/VarHandle" ∧ (parseMethodDescriptor y_M_store.desc).map (fun d => d.parameters.length) = some 3 := by decide +kernel
def r_M_store (X : zXS) (M : zMS) (co : Int32) (a : Int32) (v : Int32) : Int32 := (r_M_start X M co a 1 v)
def m_M_store (X : zXS) (M : zMS) (co : Int32) (a : Int32) (v : Int32) : zMS := (m_M_start X M co a 1 v)
set_option maxHeartbeats 1000000 in
set_option maxRecDepth 100000 in
theorem k_M_store (l : Launch) (dC : Nat → ClassId) (dI : Nat → Nat → Nat) (k : Nat → ClassId) (q : Nat → Nat) (X : zXS) (M : zMS) (co : Int32) (a : Int32) (v : Int32)  (n : Nat) (hn : M 15 0 = nI n) (hb9 : n + 8 < 200) : zMet l dC dI k q y_M_store c_M_store 4 (some .int) 3 78 [.ref (q 37), .int co, .int a, .int v] (some (.int (r_M_store X M co a v))) X M X (m_M_store X M co a v) := by
  refine zMet.of (by decide) (Nat.le_of_ble_eq_true rfl) ?_
  intro p e s m args below meth c ls C hr hk hl h
  have hx := C.1
  have hb := C.2.1
  have hl : lv_has ls 4 [(0, .ref (q 37)), (1, .int co), (2, .int a), (3, .int v)] := hl
  refine lv_aload_n hx hb d_M_store_0 rfl (lv_at hl 0 rfl) ?_
  refine lv_iload_n hx hb d_M_store_1 rfl (lv_at hl 1 rfl) ?_
  refine lv_iload_n hx hb d_M_store_2 rfl (lv_at hl 2 rfl) ?_
  refine lv_iconst (v := 1) hx hb d_M_store_3 (by decide) ?_
  refine lv_iload_n hx hb d_M_store_4 rfl (lv_at hl 3 rfl) ?_
  refine z_callV (i := 37) C h (k_M_start l dC dI k q X M co a 1 v n hn hb9) co_M_start ml_M_142 im_M_start se_M_start in_M rfl rfl hd_M_start ⟨by decide, by decide⟩ ⟨Nat.zero_le _, Nat.zero_le _⟩ hl.1 (Nat.le_of_ble_eq_true rfl) d_M_store_5 rfl (fun H locs h => ?_)
  refine W.eq (g2 := F0 m 8 ls [.int (r_M_start X M co a 1 v)]) rfl ?_
  have h : zH dC dI k q X (m_M_start X M co a 1 v) (zA q) s.heap H locs := h
  exact z_retE C h hr hk (by first | rfl | (simp only [r_M_store, m_M_store, ↓reduceIte]; done) | (simp [r_M_store, m_M_store]; done)) (by first | rfl | (simp only [r_M_store, m_M_store, ↓reduceIte]; done) | (simp [r_M_store, m_M_store]; done)) (by first | rfl | (simp only [r_M_store, m_M_store, ↓reduceIte]; done) | (simp [r_M_store, m_M_store]; done)) d_M_store_8
theorem hd_M_add : y_M_add.cls ≠ "java/lang/invoke/MethodHandle" ∧ y_M_add.cls ≠ "java/lang/invoke/VarHandle" ∧ (parseMethodDescriptor y_M_add.desc).map (fun d => d.parameters.length) = some 3 := by decide +kernel
def r_M_add (X : zXS) (M : zMS) (co : Int32) (a : Int32) (v : Int32) : Int32 := (r_M_start X M co a 2 v)
def m_M_add (X : zXS) (M : zMS) (co : Int32) (a : Int32) (v : Int32) : zMS := (m_M_start X M co a 2 v)
set_option maxHeartbeats 1000000 in
set_option maxRecDepth 100000 in
theorem k_M_add (l : Launch) (dC : Nat → ClassId) (dI : Nat → Nat → Nat) (k : Nat → ClassId) (q : Nat → Nat) (X : zXS) (M : zMS) (co : Int32) (a : Int32) (v : Int32)  (n : Nat) (hn : M 15 0 = nI n) (hb9 : n + 8 < 200) : zMet l dC dI k q y_M_add c_M_add 4 (some .int) 3 78 [.ref (q 37), .int co, .int a, .int v] (some (.int (r_M_add X M co a v))) X M X (m_M_add X M co a v) := by
  refine zMet.of (by decide) (Nat.le_of_ble_eq_true rfl) ?_
  intro p e s m args below meth c ls C hr hk hl h
  have hx := C.1
  have hb := C.2.1
  have hl : lv_has ls 4 [(0, .ref (q 37)), (1, .int co), (2, .int a), (3, .int v)] := hl
  refine lv_aload_n hx hb d_M_add_0 rfl (lv_at hl 0 rfl) ?_
  refine lv_iload_n hx hb d_M_add_1 rfl (lv_at hl 1 rfl) ?_
  refine lv_iload_n hx hb d_M_add_2 rfl (lv_at hl 2 rfl) ?_
  refine lv_iconst (v := 2) hx hb d_M_add_3 (by decide) ?_
  refine lv_iload_n hx hb d_M_add_4 rfl (lv_at hl 3 rfl) ?_
  refine z_callV (i := 37) C h (k_M_start l dC dI k q X M co a 2 v n hn hb9) co_M_start ml_M_142 im_M_start se_M_start in_M rfl rfl hd_M_start ⟨by decide, by decide⟩ ⟨Nat.zero_le _, Nat.zero_le _⟩ hl.1 (Nat.le_of_ble_eq_true rfl) d_M_add_5 rfl (fun H locs h => ?_)
  refine W.eq (g2 := F0 m 8 ls [.int (r_M_start X M co a 2 v)]) rfl ?_
  have h : zH dC dI k q X (m_M_start X M co a 2 v) (zA q) s.heap H locs := h
  exact z_retE C h hr hk (by first | rfl | (simp only [r_M_add, m_M_add, ↓reduceIte]; done) | (simp [r_M_add, m_M_add]; done)) (by first | rfl | (simp only [r_M_add, m_M_add, ↓reduceIte]; done) | (simp [r_M_add, m_M_add]; done)) (by first | rfl | (simp only [r_M_add, m_M_add, ↓reduceIte]; done) | (simp [r_M_add, m_M_add]; done)) d_M_add_8
theorem hd_M_leave : y_M_leave.cls ≠ "java/lang/invoke/MethodHandle" ∧ y_M_leave.cls ≠ "java/lang/invoke/VarHandle" ∧ (parseMethodDescriptor y_M_leave.desc).map (fun d => d.parameters.length) = some 2 := by decide +kernel
def jS0_M_leave_83_1 (X : zXS) (M : zMS) (co : Int32) (a : Int32) : Int32 := (if (M 0 (Int32.toNatClampNeg ((4 * co) + a))) = 3 then (M 1 (Int32.toNatClampNeg ((4 * co) + a))) else 0)
def r_M_leave (X : zXS) (M : zMS) (co : Int32) (a : Int32) : Int32 := (if (m_four co) = 0 then (-1) else (if (m_four a) = 0 then (-1) else (if (M 0 (Int32.toNatClampNeg ((4 * co) + a))) ≤ 3 then (if (M 0 (Int32.toNatClampNeg ((4 * co) + a))) = 0 then 0 else 1) else (-2))))
def m_M_leave (X : zXS) (M : zMS) (co : Int32) (a : Int32) : zMS := (if (m_four co) = 0 then M else (if (m_four a) = 0 then M else (if (M 0 (Int32.toNatClampNeg ((4 * co) + a))) ≤ 3 then (if (M 0 (Int32.toNatClampNeg ((4 * co) + a))) = 0 then M else (m_send (u2 M 0 (Int32.toNatClampNeg ((4 * co) + a)) (12 - (M 0 (Int32.toNatClampNeg ((4 * co) + a))))) ((M 0 (Int32.toNatClampNeg ((4 * co) + a))) + 1) a co 4 co 0 (jS0_M_leave_83_1 X M co a))) else M)))
set_option maxHeartbeats 1000000 in
set_option maxRecDepth 100000 in
theorem k_M_leave (l : Launch) (dC : Nat → ClassId) (dI : Nat → Nat → Nat) (k : Nat → ClassId) (q : Nat → Nat) (X : zXS) (M : zMS) (co : Int32) (a : Int32)  (n : Nat) (hn : M 15 0 = nI n) (hb9 : n + 8 < 200) : zMet l dC dI k q y_M_leave c_M_leave 5 (some .int) 1 27 [.ref (q 37), .int co, .int a] (some (.int (r_M_leave X M co a))) X M X (m_M_leave X M co a) := by
  refine zMet.of (by decide) (Nat.le_of_ble_eq_true rfl) ?_
  intro p e s m args below meth c ls C hr hk hl h
  have hx := C.1
  have hb := C.2.1
  have hl : lv_has ls 5 [(0, .ref (q 37)), (1, .int co), (2, .int a)] := hl
  refine lv_iload_n hx hb d_M_leave_0 rfl (lv_at hl 1 rfl) ?_
  refine z_callS C h (k_M_isFour l dC dI k q X M co) co_M_isFour ml_M_139 sc_M_isFour in_M hd_M_isFour ⟨by decide, by decide⟩ ⟨Nat.zero_le _, Nat.zero_le _⟩ hl.1 (Nat.le_of_ble_eq_true rfl) d_M_leave_1 rfl (fun H locs h => ?_)
  refine W.eq (g2 := F0 m 4 ls [.int (m_four co)]) rfl ?_
  have h : zH dC dI k q X M (zA q) s.heap H locs := h
  refine lv_if_eq (tgt := 14) hx hb d_M_leave_4 (by decide) (fun hh1 => ?_) (fun hh1 => ?_)
  · skip
    refine lv_iconst (v := -1) hx hb d_M_leave_14 (by decide) ?_
    exact z_retE C h hr hk (by first | rfl | (simp only [r_M_leave, m_M_leave, eq_true hh1, ↓reduceIte]; done) | (simp [r_M_leave, m_M_leave, eq_true hh1]; done)) (by first | rfl | (simp only [r_M_leave, m_M_leave, eq_true hh1, ↓reduceIte]; done) | (simp [r_M_leave, m_M_leave, eq_true hh1]; done)) (by first | rfl | (simp only [r_M_leave, m_M_leave, eq_true hh1, ↓reduceIte]; done) | (simp [r_M_leave, m_M_leave, eq_true hh1]; done)) d_M_leave_15
  · skip
    refine lv_iload_n hx hb d_M_leave_7 rfl (lv_at hl 2 rfl) ?_
    refine z_callS C h (k_M_isFour l dC dI k q X M a) co_M_isFour ml_M_139 sc_M_isFour in_M hd_M_isFour ⟨by decide, by decide⟩ ⟨Nat.zero_le _, Nat.zero_le _⟩ hl.1 (Nat.le_of_ble_eq_true rfl) d_M_leave_8 rfl (fun H locs h => ?_)
    refine W.eq (g2 := F0 m 11 ls [.int (m_four a)]) rfl ?_
    have h : zH dC dI k q X M (zA q) s.heap H locs := h
    refine lv_if_ne (tgt := 16) hx hb d_M_leave_11 (by decide) (fun hh2 => ?_) (fun hh2 => ?_)
    · skip
      refine lv_iconst (v := 4) hx hb d_M_leave_16 (by decide) ?_
      refine lv_iload_n hx hb d_M_leave_17 rfl (lv_at hl 1 rfl) ?_
      refine lv_imul hx hb d_M_leave_18 ?_
      refine lv_iload_n hx hb d_M_leave_19 rfl (lv_at hl 2 rfl) ?_
      refine lv_iadd hx hb d_M_leave_20 ?_
      refine lv_istore_n hx hb d_M_leave_21 rfl hl (by decide) rfl (fun ls hl => ?_)
      have hl : lv_has ls 5 [(3, .int ((4 * co) + a)), (0, .ref (q 37)), (1, .int co), (2, .int a)] := hl
      refine lv_aload_n hx hb d_M_leave_22 rfl (lv_at hl 1 rfl) ?_
      refine g_M_7 C h d_M_leave_23 ?_
      refine lv_iload_n hx hb d_M_leave_26 rfl (lv_at hl 0 rfl) ?_
      refine l_M0 C h (vp4 (four_in hh1) (four_in hh2)) d_M_leave_27 ?_
      refine lv_istore hx hb d_M_leave_28 hl (by decide) rfl (fun ls hl => ?_)
      have hl : lv_has ls 5 [(4, .int (M 0 (Int32.toNatClampNeg ((4 * co) + a)))), (3, .int ((4 * co) + a)), (0, .ref (q 37)), (1, .int co), (2, .int a)] := hl
      refine lv_iload hx hb d_M_leave_30 (lv_at hl 0 rfl) ?_
      refine lv_iconst (v := 3) hx hb d_M_leave_32 (by decide) ?_
      refine lv_icmp_le (tgt := 39) hx hb d_M_leave_33 (by decide) (fun hh3 => ?_) (fun hh3 => ?_)
      · skip
        refine lv_iload hx hb d_M_leave_39 (lv_at hl 0 rfl) ?_
        refine lv_if_ne (tgt := 46) hx hb d_M_leave_41 (by decide) (fun hh4 => ?_) (fun hh4 => ?_)
        · skip
          refine lv_aload_n hx hb d_M_leave_46 rfl (lv_at hl 2 rfl) ?_
          refine g_M_7 C h d_M_leave_47 ?_
          refine lv_iload_n hx hb d_M_leave_50 rfl (lv_at hl 1 rfl) ?_
          refine lv_bipush (v := 12) hx hb d_M_leave_51 (by decide) ?_
          refine lv_iload hx hb d_M_leave_53 (lv_at hl 0 rfl) ?_
          refine lv_isub hx hb d_M_leave_55 ?_
          refine s_M0 C h (vp4 (four_in hh1) (four_in hh2)) d_M_leave_56 (fun H locs h => ?_)
          refine lv_aload_n hx hb d_M_leave_57 rfl (lv_at hl 2 rfl) ?_
          refine lv_iload hx hb d_M_leave_58 (lv_at hl 0 rfl) ?_
          refine lv_iconst (v := 1) hx hb d_M_leave_60 (by decide) ?_
          refine lv_iadd hx hb d_M_leave_61 ?_
          refine lv_iload_n hx hb d_M_leave_62 rfl (lv_at hl 4 rfl) ?_
          refine lv_iload_n hx hb d_M_leave_63 rfl (lv_at hl 3 rfl) ?_
          refine lv_iconst (v := 4) hx hb d_M_leave_64 (by decide) ?_
          refine lv_iload_n hx hb d_M_leave_65 rfl (lv_at hl 3 rfl) ?_
          refine lv_iconst (v := 0) hx hb d_M_leave_66 (by decide) ?_
          have J83_1 : ∀ (ls : Array Slot) (H : Heap) (locs : List Loc), lv_has ls 5 [(0, .ref (q 37)), (1, .int co), (2, .int a), (3, .int ((4 * co) + a)), (4, .int (M 0 (Int32.toNatClampNeg ((4 * co) + a))))] → zH dC dI k q X (u2 M 0 (Int32.toNatClampNeg ((4 * co) + a)) (12 - (M 0 (Int32.toNatClampNeg ((4 * co) + a))))) (zA q) s.heap H locs → W p l e { frames := 1, cells := 0, slots := 0, locals := 27 } s m args below meth c H locs 0 0 (MQ below (zQc dC dI k q X (m_M_leave X M co a) (some (.int (r_M_leave X M co a)))) args s 0 0 (zA q)) (F0 m 83 ls [.int (jS0_M_leave_83_1 X M co a), .int 0, .int co, .int 4, .int co, .int a, .int ((M 0 (Int32.toNatClampNeg ((4 * co) + a))) + 1), .ref (q 37)]) := by
            intro ls H locs hl h
            refine z_callV (i := 37) C h (k_M_sendWith l dC dI k q X (u2 M 0 (Int32.toNatClampNeg ((4 * co) + a)) (12 - (M 0 (Int32.toNatClampNeg ((4 * co) + a))))) ((M 0 (Int32.toNatClampNeg ((4 * co) + a))) + 1) a co 4 co 0 (jS0_M_leave_83_1 X M co a) (zRow.room (zRow.up (by decide) (zRow.of hn)) (by omega)) (vp4 (four_in hh1) (four_in hh2))) co_M_sendWith ml_M_77 im_M_sendWith se_M_sendWith in_M rfl rfl hd_M_sendWith ⟨by decide, by decide⟩ ⟨Nat.zero_le _, Nat.zero_le _⟩ hl.1 (Nat.le_of_ble_eq_true rfl) d_M_leave_83 rfl (fun H locs h => ?_)
            refine W.eq (g2 := F0 m 86 ls []) rfl ?_
            have h : zH dC dI k q X (m_send (u2 M 0 (Int32.toNatClampNeg ((4 * co) + a)) (12 - (M 0 (Int32.toNatClampNeg ((4 * co) + a))))) ((M 0 (Int32.toNatClampNeg ((4 * co) + a))) + 1) a co 4 co 0 (jS0_M_leave_83_1 X M co a)) (zA q) s.heap H locs := h
            refine lv_iconst (v := 1) hx hb d_M_leave_86 (by decide) ?_
            exact z_retE C h hr hk (by first | rfl | (simp only [r_M_leave, m_M_leave, eq_false hh1, eq_false hh2, eq_true hh3, eq_false hh4, ↓reduceIte]; done) | (simp [r_M_leave, m_M_leave, eq_false hh1, eq_false hh2, eq_true hh3, eq_false hh4]; done)) (by first | rfl | (simp only [r_M_leave, m_M_leave, eq_false hh1, eq_false hh2, eq_true hh3, eq_false hh4, ↓reduceIte]; done) | (simp [r_M_leave, m_M_leave, eq_false hh1, eq_false hh2, eq_true hh3, eq_false hh4]; done)) (by first | rfl | (simp only [r_M_leave, m_M_leave, eq_false hh1, eq_false hh2, eq_true hh3, eq_false hh4, ↓reduceIte]; done) | (simp [r_M_leave, m_M_leave, eq_false hh1, eq_false hh2, eq_true hh3, eq_false hh4]; done)) d_M_leave_87
          refine lv_iload hx hb d_M_leave_67 (lv_at hl 0 rfl) ?_
          refine lv_iconst (v := 3) hx hb d_M_leave_69 (by decide) ?_
          refine lv_icmp_ne (tgt := 82) hx hb d_M_leave_70 (by decide) (fun hh5 => ?_) (fun hh5 => ?_)
          · skip
            refine lv_iconst (v := 0) hx hb d_M_leave_82 (by decide) ?_
            have J := J83_1 _ _ _ (lv_sub hl [2, 3, 4, 1, 0] rfl) h
            rw [show (jS0_M_leave_83_1 X M co a) = 0 from (by first | (simp only [jS0_M_leave_83_1, eq_false hh1, eq_false hh2, eq_true hh3, eq_false hh4, eq_false hh5, ↓reduceIte]; done) | (simp [jS0_M_leave_83_1, eq_false hh1, eq_false hh2, eq_true hh3, eq_false hh4, eq_false hh5]; done))] at J
            exact J
          · skip
            refine lv_aload_n hx hb d_M_leave_73 rfl (lv_at hl 2 rfl) ?_
            refine g_M_13 C h d_M_leave_74 ?_
            refine lv_iload_n hx hb d_M_leave_77 rfl (lv_at hl 1 rfl) ?_
            refine l_M1 C h (vp4 (four_in hh1) (four_in hh2)) d_M_leave_78 ?_
            refine z_top (y := M 1 (Int32.toNatClampNeg ((4 * co) + a))) rfl ?_
            refine lv_goto (tgt := 83) hx hb d_M_leave_79 (by decide) ?_
            have J := J83_1 _ _ _ (lv_sub hl [2, 3, 4, 1, 0] rfl) h
            rw [show (jS0_M_leave_83_1 X M co a) = (M 1 (Int32.toNatClampNeg ((4 * co) + a))) from (by first | (simp only [jS0_M_leave_83_1, eq_false hh1, eq_false hh2, eq_true hh3, eq_false hh4, eq_true hh5, ↓reduceIte]; done) | (simp [jS0_M_leave_83_1, eq_false hh1, eq_false hh2, eq_true hh3, eq_false hh4, eq_true hh5]; done))] at J
            exact J
        · skip
          refine lv_iconst (v := 0) hx hb d_M_leave_44 (by decide) ?_
          exact z_retE C h hr hk (by first | rfl | (simp only [r_M_leave, m_M_leave, eq_false hh1, eq_false hh2, eq_true hh3, eq_true hh4, ↓reduceIte]; done) | (simp [r_M_leave, m_M_leave, eq_false hh1, eq_false hh2, eq_true hh3, eq_true hh4]; done)) (by first | rfl | (simp only [r_M_leave, m_M_leave, eq_false hh1, eq_false hh2, eq_true hh3, eq_true hh4, ↓reduceIte]; done) | (simp [r_M_leave, m_M_leave, eq_false hh1, eq_false hh2, eq_true hh3, eq_true hh4]; done)) (by first | rfl | (simp only [r_M_leave, m_M_leave, eq_false hh1, eq_false hh2, eq_true hh3, eq_true hh4, ↓reduceIte]; done) | (simp [r_M_leave, m_M_leave, eq_false hh1, eq_false hh2, eq_true hh3, eq_true hh4]; done)) d_M_leave_45
      · skip
        refine lv_bipush (v := -2) hx hb d_M_leave_36 (by decide) ?_
        exact z_retE C h hr hk (by first | rfl | (simp only [r_M_leave, m_M_leave, eq_false hh1, eq_false hh2, eq_false hh3, ↓reduceIte]; done) | (simp [r_M_leave, m_M_leave, eq_false hh1, eq_false hh2, eq_false hh3]; done)) (by first | rfl | (simp only [r_M_leave, m_M_leave, eq_false hh1, eq_false hh2, eq_false hh3, ↓reduceIte]; done) | (simp [r_M_leave, m_M_leave, eq_false hh1, eq_false hh2, eq_false hh3]; done)) (by first | rfl | (simp only [r_M_leave, m_M_leave, eq_false hh1, eq_false hh2, eq_false hh3, ↓reduceIte]; done) | (simp [r_M_leave, m_M_leave, eq_false hh1, eq_false hh2, eq_false hh3]; done)) d_M_leave_38
    · skip
      refine lv_iconst (v := -1) hx hb d_M_leave_14 (by decide) ?_
      exact z_retE C h hr hk (by first | rfl | (simp only [r_M_leave, m_M_leave, eq_false hh1, eq_true hh2, ↓reduceIte]; done) | (simp [r_M_leave, m_M_leave, eq_false hh1, eq_true hh2]; done)) (by first | rfl | (simp only [r_M_leave, m_M_leave, eq_false hh1, eq_true hh2, ↓reduceIte]; done) | (simp [r_M_leave, m_M_leave, eq_false hh1, eq_true hh2]; done)) (by first | rfl | (simp only [r_M_leave, m_M_leave, eq_false hh1, eq_true hh2, ↓reduceIte]; done) | (simp [r_M_leave, m_M_leave, eq_false hh1, eq_true hh2]; done)) d_M_leave_15
theorem hd_M_message : y_M_message.cls ≠ "java/lang/invoke/MethodHandle" ∧ y_M_message.cls ≠ "java/lang/invoke/VarHandle" ∧ (parseMethodDescriptor y_M_message.desc).map (fun d => d.parameters.length) = some 2 := by decide +kernel
def r_M_message (X : zXS) (M : zMS) (x : Int32) (w : Int32) : Int32 := (if x = (-1) then (M 15 0) else (if x < 0 then (-1) else (if x < (M 15 0) then (if w = 0 then (M 16 (Int32.toNatClampNeg x)) else (if w = 1 then (M 17 (Int32.toNatClampNeg x)) else (if w = 2 then (M 18 (Int32.toNatClampNeg x)) else (if w = 3 then (M 19 (Int32.toNatClampNeg x)) else (if w = 4 then (M 20 (Int32.toNatClampNeg x)) else (if w = 5 then (M 21 (Int32.toNatClampNeg x)) else (-1))))))) else (-1))))
set_option maxHeartbeats 1000000 in
set_option maxRecDepth 100000 in
theorem k_M_message (l : Launch) (dC : Nat → ClassId) (dI : Nat → Nat → Nat) (k : Nat → ClassId) (q : Nat → Nat) (X : zXS) (M : zMS) (x : Int32) (w : Int32)  (n : Nat) (hn : M 15 0 = nI n) (hb9 : n + 8 < 200) : zMet l dC dI k q y_M_message c_M_message 3 (some .int) 0 0 [.ref (q 37), .int x, .int w] (some (.int (r_M_message X M x w))) X M X M := by
  refine zMet.of (by decide) (Nat.le_of_ble_eq_true rfl) ?_
  intro p e s m args below meth c ls C hr hk hl h
  have hx := C.1
  have hb := C.2.1
  have hl : lv_has ls 3 [(0, .ref (q 37)), (1, .int x), (2, .int w)] := hl
  refine lv_iload_n hx hb d_M_message_0 rfl (lv_at hl 1 rfl) ?_
  refine lv_iconst (v := -1) hx hb d_M_message_1 (by decide) ?_
  refine lv_icmp_ne (tgt := 10) hx hb d_M_message_2 (by decide) (fun hh1 => ?_) (fun hh1 => ?_)
  · skip
    refine lv_iload_n hx hb d_M_message_10 rfl (lv_at hl 1 rfl) ?_
    refine lv_if_lt (tgt := 22) hx hb d_M_message_11 (by decide) (fun hh2 => ?_) (fun hh2 => ?_)
    · skip
      refine lv_iconst (v := -1) hx hb d_M_message_22 (by decide) ?_
      exact z_retE C h hr hk (by first | rfl | (simp only [r_M_message, eq_false hh1, eq_true hh2, ↓reduceIte]; done) | (simp [r_M_message, eq_false hh1, eq_true hh2]; done)) (by first | rfl | (simp only [r_M_message, eq_false hh1, eq_true hh2, ↓reduceIte]; done) | (simp [r_M_message, eq_false hh1, eq_true hh2]; done)) (by first | rfl | (simp only [r_M_message, eq_false hh1, eq_true hh2, ↓reduceIte]; done) | (simp [r_M_message, eq_false hh1, eq_true hh2]; done)) d_M_message_23
    · skip
      refine lv_iload_n hx hb d_M_message_14 rfl (lv_at hl 1 rfl) ?_
      refine lv_aload_n hx hb d_M_message_15 rfl (lv_at hl 0 rfl) ?_
      refine g_M_81 C h d_M_message_16 ?_
      refine lv_icmp_lt (tgt := 24) hx hb d_M_message_19 (by decide) (fun hh3 => ?_) (fun hh3 => ?_)
      · skip
        refine lv_iload_n hx hb d_M_message_24 rfl (lv_at hl 2 rfl) ?_
        rcases (Decidable.em (w = 0)) with hh4 | hh4
        · skip
          refine lv_tableIn (tgt := 64) hx hb d_M_message_25 (by rw [hh4]; decide) (by rw [hh4]; decide) (by rw [hh4]; rfl) (by decide) ?_
          refine lv_aload_n hx hb d_M_message_64 rfl (lv_at hl 0 rfl) ?_
          refine g_M_56 C h d_M_message_65 ?_
          refine lv_iload_n hx hb d_M_message_68 rfl (lv_at hl 1 rfl) ?_
          refine l_M16 C h (rows_in hh2 hh3 hn (by omega) (by omega)) d_M_message_69 ?_
          exact z_retE C h hr hk (by first | rfl | (simp only [r_M_message, eq_false hh1, eq_false hh2, eq_true hh3, eq_true hh4, ↓reduceIte]; done) | (simp [r_M_message, eq_false hh1, eq_false hh2, eq_true hh3, eq_true hh4]; done)) (by first | rfl | (simp only [r_M_message, eq_false hh1, eq_false hh2, eq_true hh3, eq_true hh4, ↓reduceIte]; done) | (simp [r_M_message, eq_false hh1, eq_false hh2, eq_true hh3, eq_true hh4]; done)) (by first | rfl | (simp only [r_M_message, eq_false hh1, eq_false hh2, eq_true hh3, eq_true hh4, ↓reduceIte]; done) | (simp [r_M_message, eq_false hh1, eq_false hh2, eq_true hh3, eq_true hh4]; done)) d_M_message_70
        rcases (Decidable.em (w = 1)) with hh5 | hh5
        · skip
          refine lv_tableIn (tgt := 71) hx hb d_M_message_25 (by rw [hh5]; decide) (by rw [hh5]; decide) (by rw [hh5]; rfl) (by decide) ?_
          refine lv_aload_n hx hb d_M_message_71 rfl (lv_at hl 0 rfl) ?_
          refine g_M_59 C h d_M_message_72 ?_
          refine lv_iload_n hx hb d_M_message_75 rfl (lv_at hl 1 rfl) ?_
          refine l_M17 C h (rows_in hh2 hh3 hn (by omega) (by omega)) d_M_message_76 ?_
          exact z_retE C h hr hk (by first | rfl | (simp only [r_M_message, eq_false hh1, eq_false hh2, eq_true hh3, eq_false hh4, eq_true hh5, ↓reduceIte]; done) | (simp [r_M_message, eq_false hh1, eq_false hh2, eq_true hh3, eq_false hh4, eq_true hh5]; done)) (by first | rfl | (simp only [r_M_message, eq_false hh1, eq_false hh2, eq_true hh3, eq_false hh4, eq_true hh5, ↓reduceIte]; done) | (simp [r_M_message, eq_false hh1, eq_false hh2, eq_true hh3, eq_false hh4, eq_true hh5]; done)) (by first | rfl | (simp only [r_M_message, eq_false hh1, eq_false hh2, eq_true hh3, eq_false hh4, eq_true hh5, ↓reduceIte]; done) | (simp [r_M_message, eq_false hh1, eq_false hh2, eq_true hh3, eq_false hh4, eq_true hh5]; done)) d_M_message_77
        rcases (Decidable.em (w = 2)) with hh6 | hh6
        · skip
          refine lv_tableIn (tgt := 78) hx hb d_M_message_25 (by rw [hh6]; decide) (by rw [hh6]; decide) (by rw [hh6]; rfl) (by decide) ?_
          refine lv_aload_n hx hb d_M_message_78 rfl (lv_at hl 0 rfl) ?_
          refine g_M_62 C h d_M_message_79 ?_
          refine lv_iload_n hx hb d_M_message_82 rfl (lv_at hl 1 rfl) ?_
          refine l_M18 C h (rows_in hh2 hh3 hn (by omega) (by omega)) d_M_message_83 ?_
          exact z_retE C h hr hk (by first | rfl | (simp only [r_M_message, eq_false hh1, eq_false hh2, eq_true hh3, eq_false hh4, eq_false hh5, eq_true hh6, ↓reduceIte]; done) | (simp [r_M_message, eq_false hh1, eq_false hh2, eq_true hh3, eq_false hh4, eq_false hh5, eq_true hh6]; done)) (by first | rfl | (simp only [r_M_message, eq_false hh1, eq_false hh2, eq_true hh3, eq_false hh4, eq_false hh5, eq_true hh6, ↓reduceIte]; done) | (simp [r_M_message, eq_false hh1, eq_false hh2, eq_true hh3, eq_false hh4, eq_false hh5, eq_true hh6]; done)) (by first | rfl | (simp only [r_M_message, eq_false hh1, eq_false hh2, eq_true hh3, eq_false hh4, eq_false hh5, eq_true hh6, ↓reduceIte]; done) | (simp [r_M_message, eq_false hh1, eq_false hh2, eq_true hh3, eq_false hh4, eq_false hh5, eq_true hh6]; done)) d_M_message_84
        rcases (Decidable.em (w = 3)) with hh7 | hh7
        · skip
          refine lv_tableIn (tgt := 85) hx hb d_M_message_25 (by rw [hh7]; decide) (by rw [hh7]; decide) (by rw [hh7]; rfl) (by decide) ?_
          refine lv_aload_n hx hb d_M_message_85 rfl (lv_at hl 0 rfl) ?_
          refine g_M_65 C h d_M_message_86 ?_
          refine lv_iload_n hx hb d_M_message_89 rfl (lv_at hl 1 rfl) ?_
          refine l_M19 C h (rows_in hh2 hh3 hn (by omega) (by omega)) d_M_message_90 ?_
          exact z_retE C h hr hk (by first | rfl | (simp only [r_M_message, eq_false hh1, eq_false hh2, eq_true hh3, eq_false hh4, eq_false hh5, eq_false hh6, eq_true hh7, ↓reduceIte]; done) | (simp [r_M_message, eq_false hh1, eq_false hh2, eq_true hh3, eq_false hh4, eq_false hh5, eq_false hh6, eq_true hh7]; done)) (by first | rfl | (simp only [r_M_message, eq_false hh1, eq_false hh2, eq_true hh3, eq_false hh4, eq_false hh5, eq_false hh6, eq_true hh7, ↓reduceIte]; done) | (simp [r_M_message, eq_false hh1, eq_false hh2, eq_true hh3, eq_false hh4, eq_false hh5, eq_false hh6, eq_true hh7]; done)) (by first | rfl | (simp only [r_M_message, eq_false hh1, eq_false hh2, eq_true hh3, eq_false hh4, eq_false hh5, eq_false hh6, eq_true hh7, ↓reduceIte]; done) | (simp [r_M_message, eq_false hh1, eq_false hh2, eq_true hh3, eq_false hh4, eq_false hh5, eq_false hh6, eq_true hh7]; done)) d_M_message_91
        rcases (Decidable.em (w = 4)) with hh8 | hh8
        · skip
          refine lv_tableIn (tgt := 92) hx hb d_M_message_25 (by rw [hh8]; decide) (by rw [hh8]; decide) (by rw [hh8]; rfl) (by decide) ?_
          refine lv_aload_n hx hb d_M_message_92 rfl (lv_at hl 0 rfl) ?_
          refine g_M_68 C h d_M_message_93 ?_
          refine lv_iload_n hx hb d_M_message_96 rfl (lv_at hl 1 rfl) ?_
          refine l_M20 C h (rows_in hh2 hh3 hn (by omega) (by omega)) d_M_message_97 ?_
          exact z_retE C h hr hk (by first | rfl | (simp only [r_M_message, eq_false hh1, eq_false hh2, eq_true hh3, eq_false hh4, eq_false hh5, eq_false hh6, eq_false hh7, eq_true hh8, ↓reduceIte]; done) | (simp [r_M_message, eq_false hh1, eq_false hh2, eq_true hh3, eq_false hh4, eq_false hh5, eq_false hh6, eq_false hh7, eq_true hh8]; done)) (by first | rfl | (simp only [r_M_message, eq_false hh1, eq_false hh2, eq_true hh3, eq_false hh4, eq_false hh5, eq_false hh6, eq_false hh7, eq_true hh8, ↓reduceIte]; done) | (simp [r_M_message, eq_false hh1, eq_false hh2, eq_true hh3, eq_false hh4, eq_false hh5, eq_false hh6, eq_false hh7, eq_true hh8]; done)) (by first | rfl | (simp only [r_M_message, eq_false hh1, eq_false hh2, eq_true hh3, eq_false hh4, eq_false hh5, eq_false hh6, eq_false hh7, eq_true hh8, ↓reduceIte]; done) | (simp [r_M_message, eq_false hh1, eq_false hh2, eq_true hh3, eq_false hh4, eq_false hh5, eq_false hh6, eq_false hh7, eq_true hh8]; done)) d_M_message_98
        rcases (Decidable.em (w = 5)) with hh9 | hh9
        · skip
          refine lv_tableIn (tgt := 99) hx hb d_M_message_25 (by rw [hh9]; decide) (by rw [hh9]; decide) (by rw [hh9]; rfl) (by decide) ?_
          refine lv_aload_n hx hb d_M_message_99 rfl (lv_at hl 0 rfl) ?_
          refine g_M_71 C h d_M_message_100 ?_
          refine lv_iload_n hx hb d_M_message_103 rfl (lv_at hl 1 rfl) ?_
          refine l_M21 C h (rows_in hh2 hh3 hn (by omega) (by omega)) d_M_message_104 ?_
          exact z_retE C h hr hk (by first | rfl | (simp only [r_M_message, eq_false hh1, eq_false hh2, eq_true hh3, eq_false hh4, eq_false hh5, eq_false hh6, eq_false hh7, eq_false hh8, eq_true hh9, ↓reduceIte]; done) | (simp [r_M_message, eq_false hh1, eq_false hh2, eq_true hh3, eq_false hh4, eq_false hh5, eq_false hh6, eq_false hh7, eq_false hh8, eq_true hh9]; done)) (by first | rfl | (simp only [r_M_message, eq_false hh1, eq_false hh2, eq_true hh3, eq_false hh4, eq_false hh5, eq_false hh6, eq_false hh7, eq_false hh8, eq_true hh9, ↓reduceIte]; done) | (simp [r_M_message, eq_false hh1, eq_false hh2, eq_true hh3, eq_false hh4, eq_false hh5, eq_false hh6, eq_false hh7, eq_false hh8, eq_true hh9]; done)) (by first | rfl | (simp only [r_M_message, eq_false hh1, eq_false hh2, eq_true hh3, eq_false hh4, eq_false hh5, eq_false hh6, eq_false hh7, eq_false hh8, eq_true hh9, ↓reduceIte]; done) | (simp [r_M_message, eq_false hh1, eq_false hh2, eq_true hh3, eq_false hh4, eq_false hh5, eq_false hh6, eq_false hh7, eq_false hh8, eq_true hh9]; done)) d_M_message_105
        refine lv_tableOut (tgt := 106) hx hb d_M_message_25 (z_out6 hh4 hh5 hh6 hh7 hh8 hh9) (by decide) ?_
        refine lv_iconst (v := -1) hx hb d_M_message_106 (by decide) ?_
        exact z_retE C h hr hk (by first | rfl | (simp only [r_M_message, eq_false hh1, eq_false hh2, eq_true hh3, eq_false hh4, eq_false hh5, eq_false hh6, eq_false hh7, eq_false hh8, eq_false hh9, ↓reduceIte]; done) | (simp [r_M_message, eq_false hh1, eq_false hh2, eq_true hh3, eq_false hh4, eq_false hh5, eq_false hh6, eq_false hh7, eq_false hh8, eq_false hh9]; done)) (by first | rfl | (simp only [r_M_message, eq_false hh1, eq_false hh2, eq_true hh3, eq_false hh4, eq_false hh5, eq_false hh6, eq_false hh7, eq_false hh8, eq_false hh9, ↓reduceIte]; done) | (simp [r_M_message, eq_false hh1, eq_false hh2, eq_true hh3, eq_false hh4, eq_false hh5, eq_false hh6, eq_false hh7, eq_false hh8, eq_false hh9]; done)) (by first | rfl | (simp only [r_M_message, eq_false hh1, eq_false hh2, eq_true hh3, eq_false hh4, eq_false hh5, eq_false hh6, eq_false hh7, eq_false hh8, eq_false hh9, ↓reduceIte]; done) | (simp [r_M_message, eq_false hh1, eq_false hh2, eq_true hh3, eq_false hh4, eq_false hh5, eq_false hh6, eq_false hh7, eq_false hh8, eq_false hh9]; done)) d_M_message_107
      · skip
        refine lv_iconst (v := -1) hx hb d_M_message_22 (by decide) ?_
        exact z_retE C h hr hk (by first | rfl | (simp only [r_M_message, eq_false hh1, eq_false hh2, eq_false hh3, ↓reduceIte]; done) | (simp [r_M_message, eq_false hh1, eq_false hh2, eq_false hh3]; done)) (by first | rfl | (simp only [r_M_message, eq_false hh1, eq_false hh2, eq_false hh3, ↓reduceIte]; done) | (simp [r_M_message, eq_false hh1, eq_false hh2, eq_false hh3]; done)) (by first | rfl | (simp only [r_M_message, eq_false hh1, eq_false hh2, eq_false hh3, ↓reduceIte]; done) | (simp [r_M_message, eq_false hh1, eq_false hh2, eq_false hh3]; done)) d_M_message_23
  · skip
    refine lv_aload_n hx hb d_M_message_5 rfl (lv_at hl 0 rfl) ?_
    refine g_M_81 C h d_M_message_6 ?_
    exact z_retE C h hr hk (by first | rfl | (simp only [r_M_message, eq_true hh1, ↓reduceIte]; done) | (simp [r_M_message, eq_true hh1]; done)) (by first | rfl | (simp only [r_M_message, eq_true hh1, ↓reduceIte]; done) | (simp [r_M_message, eq_true hh1]; done)) (by first | rfl | (simp only [r_M_message, eq_true hh1, ↓reduceIte]; done) | (simp [r_M_message, eq_true hh1]; done)) d_M_message_9
theorem hd_M_carried : y_M_carried.cls ≠ "java/lang/invoke/MethodHandle" ∧ y_M_carried.cls ≠ "java/lang/invoke/VarHandle" ∧ (parseMethodDescriptor y_M_carried.desc).map (fun d => d.parameters.length) = some 1 := by decide +kernel
def r_M_carried (X : zXS) (M : zMS) (x : Int32) : Int32 := (if x < 0 then 0 else (if x < (M 15 0) then (M 22 (Int32.toNatClampNeg x)) else 0))
set_option maxHeartbeats 1000000 in
set_option maxRecDepth 100000 in
theorem k_M_carried (l : Launch) (dC : Nat → ClassId) (dI : Nat → Nat → Nat) (k : Nat → ClassId) (q : Nat → Nat) (X : zXS) (M : zMS) (x : Int32)  (n : Nat) (hn : M 15 0 = nI n) (hb9 : n + 8 < 200) : zMet l dC dI k q y_M_carried c_M_carried 2 (some .int) 0 0 [.ref (q 37), .int x] (some (.int (r_M_carried X M x))) X M X M := by
  refine zMet.of (by decide) (Nat.le_of_ble_eq_true rfl) ?_
  intro p e s m args below meth c ls C hr hk hl h
  have hx := C.1
  have hb := C.2.1
  have hl : lv_has ls 2 [(0, .ref (q 37)), (1, .int x)] := hl
  refine lv_iload_n hx hb d_M_carried_0 rfl (lv_at hl 1 rfl) ?_
  refine lv_if_lt (tgt := 12) hx hb d_M_carried_1 (by decide) (fun hh1 => ?_) (fun hh1 => ?_)
  · skip
    refine lv_iconst (v := 0) hx hb d_M_carried_12 (by decide) ?_
    refine lv_goto (tgt := 22) hx hb d_M_carried_13 (by decide) ?_
    exact z_retE C h hr hk (by first | rfl | (simp only [r_M_carried, eq_true hh1, ↓reduceIte]; done) | (simp [r_M_carried, eq_true hh1]; done)) (by first | rfl | (simp only [r_M_carried, eq_true hh1, ↓reduceIte]; done) | (simp [r_M_carried, eq_true hh1]; done)) (by first | rfl | (simp only [r_M_carried, eq_true hh1, ↓reduceIte]; done) | (simp [r_M_carried, eq_true hh1]; done)) d_M_carried_22
  · skip
    refine lv_iload_n hx hb d_M_carried_4 rfl (lv_at hl 1 rfl) ?_
    refine lv_aload_n hx hb d_M_carried_5 rfl (lv_at hl 0 rfl) ?_
    refine g_M_81 C h d_M_carried_6 ?_
    refine lv_icmp_lt (tgt := 16) hx hb d_M_carried_9 (by decide) (fun hh2 => ?_) (fun hh2 => ?_)
    · skip
      refine lv_aload_n hx hb d_M_carried_16 rfl (lv_at hl 0 rfl) ?_
      refine g_M_74 C h d_M_carried_17 ?_
      refine lv_iload_n hx hb d_M_carried_20 rfl (lv_at hl 1 rfl) ?_
      refine l_M22 C h (rows_in hh1 hh2 hn (by omega) (by omega)) d_M_carried_21 ?_
      exact z_retE C h hr hk (by first | rfl | (simp only [r_M_carried, eq_false hh1, eq_true hh2, ↓reduceIte]; done) | (simp [r_M_carried, eq_false hh1, eq_true hh2]; done)) (by first | rfl | (simp only [r_M_carried, eq_false hh1, eq_true hh2, ↓reduceIte]; done) | (simp [r_M_carried, eq_false hh1, eq_true hh2]; done)) (by first | rfl | (simp only [r_M_carried, eq_false hh1, eq_true hh2, ↓reduceIte]; done) | (simp [r_M_carried, eq_false hh1, eq_true hh2]; done)) d_M_carried_22
    · skip
      refine lv_iconst (v := 0) hx hb d_M_carried_12 (by decide) ?_
      refine lv_goto (tgt := 22) hx hb d_M_carried_13 (by decide) ?_
      exact z_retE C h hr hk (by first | rfl | (simp only [r_M_carried, eq_false hh1, eq_false hh2, ↓reduceIte]; done) | (simp [r_M_carried, eq_false hh1, eq_false hh2]; done)) (by first | rfl | (simp only [r_M_carried, eq_false hh1, eq_false hh2, ↓reduceIte]; done) | (simp [r_M_carried, eq_false hh1, eq_false hh2]; done)) (by first | rfl | (simp only [r_M_carried, eq_false hh1, eq_false hh2, ↓reduceIte]; done) | (simp [r_M_carried, eq_false hh1, eq_false hh2]; done)) d_M_carried_22
theorem hd_M_state : y_M_state.cls ≠ "java/lang/invoke/MethodHandle" ∧ y_M_state.cls ≠ "java/lang/invoke/VarHandle" ∧ (parseMethodDescriptor y_M_state.desc).map (fun d => d.parameters.length) = some 2 := by decide +kernel
def r_M_state (X : zXS) (M : zMS) (co : Int32) (a : Int32) : Int32 := (if (m_four co) = 0 then (-1) else (if (m_four a) = 0 then (-1) else (M 0 (Int32.toNatClampNeg ((4 * co) + a)))))
set_option maxHeartbeats 1000000 in
set_option maxRecDepth 100000 in
theorem k_M_state (l : Launch) (dC : Nat → ClassId) (dI : Nat → Nat → Nat) (k : Nat → ClassId) (q : Nat → Nat) (X : zXS) (M : zMS) (co : Int32) (a : Int32)   : zMet l dC dI k q y_M_state c_M_state 3 (some .int) 1 20 [.ref (q 37), .int co, .int a] (some (.int (r_M_state X M co a))) X M X M := by
  refine zMet.of (by decide) (Nat.le_of_ble_eq_true rfl) ?_
  intro p e s m args below meth c ls C hr hk hl h
  have hx := C.1
  have hb := C.2.1
  have hl : lv_has ls 3 [(0, .ref (q 37)), (1, .int co), (2, .int a)] := hl
  refine lv_iload_n hx hb d_M_state_0 rfl (lv_at hl 1 rfl) ?_
  refine z_callS C h (k_M_isFour l dC dI k q X M co) co_M_isFour ml_M_139 sc_M_isFour in_M hd_M_isFour ⟨by decide, by decide⟩ ⟨Nat.zero_le _, Nat.zero_le _⟩ hl.1 (Nat.le_of_ble_eq_true rfl) d_M_state_1 rfl (fun H locs h => ?_)
  refine W.eq (g2 := F0 m 4 ls [.int (m_four co)]) rfl ?_
  have h : zH dC dI k q X M (zA q) s.heap H locs := h
  refine lv_if_eq (tgt := 27) hx hb d_M_state_4 (by decide) (fun hh1 => ?_) (fun hh1 => ?_)
  · skip
    refine lv_iconst (v := -1) hx hb d_M_state_27 (by decide) ?_
    exact z_retE C h hr hk (by first | rfl | (simp only [r_M_state, eq_true hh1, ↓reduceIte]; done) | (simp [r_M_state, eq_true hh1]; done)) (by first | rfl | (simp only [r_M_state, eq_true hh1, ↓reduceIte]; done) | (simp [r_M_state, eq_true hh1]; done)) (by first | rfl | (simp only [r_M_state, eq_true hh1, ↓reduceIte]; done) | (simp [r_M_state, eq_true hh1]; done)) d_M_state_28
  · skip
    refine lv_iload_n hx hb d_M_state_7 rfl (lv_at hl 2 rfl) ?_
    refine z_callS C h (k_M_isFour l dC dI k q X M a) co_M_isFour ml_M_139 sc_M_isFour in_M hd_M_isFour ⟨by decide, by decide⟩ ⟨Nat.zero_le _, Nat.zero_le _⟩ hl.1 (Nat.le_of_ble_eq_true rfl) d_M_state_8 rfl (fun H locs h => ?_)
    refine W.eq (g2 := F0 m 11 ls [.int (m_four a)]) rfl ?_
    have h : zH dC dI k q X M (zA q) s.heap H locs := h
    refine lv_if_eq (tgt := 27) hx hb d_M_state_11 (by decide) (fun hh2 => ?_) (fun hh2 => ?_)
    · skip
      refine lv_iconst (v := -1) hx hb d_M_state_27 (by decide) ?_
      exact z_retE C h hr hk (by first | rfl | (simp only [r_M_state, eq_false hh1, eq_true hh2, ↓reduceIte]; done) | (simp [r_M_state, eq_false hh1, eq_true hh2]; done)) (by first | rfl | (simp only [r_M_state, eq_false hh1, eq_true hh2, ↓reduceIte]; done) | (simp [r_M_state, eq_false hh1, eq_true hh2]; done)) (by first | rfl | (simp only [r_M_state, eq_false hh1, eq_true hh2, ↓reduceIte]; done) | (simp [r_M_state, eq_false hh1, eq_true hh2]; done)) d_M_state_28
    · skip
      refine lv_aload_n hx hb d_M_state_14 rfl (lv_at hl 0 rfl) ?_
      refine g_M_7 C h d_M_state_15 ?_
      refine lv_iconst (v := 4) hx hb d_M_state_18 (by decide) ?_
      refine lv_iload_n hx hb d_M_state_19 rfl (lv_at hl 1 rfl) ?_
      refine lv_imul hx hb d_M_state_20 ?_
      refine lv_iload_n hx hb d_M_state_21 rfl (lv_at hl 2 rfl) ?_
      refine lv_iadd hx hb d_M_state_22 ?_
      refine l_M0 C h (vp4 (four_in hh1) (four_in hh2)) d_M_state_23 ?_
      refine lv_goto (tgt := 28) hx hb d_M_state_24 (by decide) ?_
      exact z_retE C h hr hk (by first | rfl | (simp only [r_M_state, eq_false hh1, eq_false hh2, ↓reduceIte]; done) | (simp [r_M_state, eq_false hh1, eq_false hh2]; done)) (by first | rfl | (simp only [r_M_state, eq_false hh1, eq_false hh2, ↓reduceIte]; done) | (simp [r_M_state, eq_false hh1, eq_false hh2]; done)) (by first | rfl | (simp only [r_M_state, eq_false hh1, eq_false hh2, ↓reduceIte]; done) | (simp [r_M_state, eq_false hh1, eq_false hh2]; done)) d_M_state_28
theorem hd_M_value : y_M_value.cls ≠ "java/lang/invoke/MethodHandle" ∧ y_M_value.cls ≠ "java/lang/invoke/VarHandle" ∧ (parseMethodDescriptor y_M_value.desc).map (fun d => d.parameters.length) = some 2 := by decide +kernel
def r_M_value (X : zXS) (M : zMS) (co : Int32) (a : Int32) : Int32 := (if (m_four co) = 0 then 0 else (if (m_four a) = 0 then 0 else (if (M 0 (Int32.toNatClampNeg ((4 * co) + a))) = 0 then 0 else (if (M 0 (Int32.toNatClampNeg ((4 * co) + a))) = 4 then 0 else (if (M 0 (Int32.toNatClampNeg ((4 * co) + a))) = 5 then 0 else (if (M 0 (Int32.toNatClampNeg ((4 * co) + a))) = 12 then 0 else (M 1 (Int32.toNatClampNeg ((4 * co) + a)))))))))
set_option maxHeartbeats 1000000 in
set_option maxRecDepth 100000 in
theorem k_M_value (l : Launch) (dC : Nat → ClassId) (dI : Nat → Nat → Nat) (k : Nat → ClassId) (q : Nat → Nat) (X : zXS) (M : zMS) (co : Int32) (a : Int32)   : zMet l dC dI k q y_M_value c_M_value 4 (some .int) 1 20 [.ref (q 37), .int co, .int a] (some (.int (r_M_value X M co a))) X M X M := by
  refine zMet.of (by decide) (Nat.le_of_ble_eq_true rfl) ?_
  intro p e s m args below meth c ls C hr hk hl h
  have hx := C.1
  have hb := C.2.1
  have hl : lv_has ls 4 [(0, .ref (q 37)), (1, .int co), (2, .int a)] := hl
  refine lv_iload_n hx hb d_M_value_0 rfl (lv_at hl 1 rfl) ?_
  refine z_callS C h (k_M_isFour l dC dI k q X M co) co_M_isFour ml_M_139 sc_M_isFour in_M hd_M_isFour ⟨by decide, by decide⟩ ⟨Nat.zero_le _, Nat.zero_le _⟩ hl.1 (Nat.le_of_ble_eq_true rfl) d_M_value_1 rfl (fun H locs h => ?_)
  refine W.eq (g2 := F0 m 4 ls [.int (m_four co)]) rfl ?_
  have h : zH dC dI k q X M (zA q) s.heap H locs := h
  refine lv_if_eq (tgt := 14) hx hb d_M_value_4 (by decide) (fun hh1 => ?_) (fun hh1 => ?_)
  · skip
    refine lv_iconst (v := 0) hx hb d_M_value_14 (by decide) ?_
    exact z_retE C h hr hk (by first | rfl | (simp only [r_M_value, eq_true hh1, ↓reduceIte]; done) | (simp [r_M_value, eq_true hh1]; done)) (by first | rfl | (simp only [r_M_value, eq_true hh1, ↓reduceIte]; done) | (simp [r_M_value, eq_true hh1]; done)) (by first | rfl | (simp only [r_M_value, eq_true hh1, ↓reduceIte]; done) | (simp [r_M_value, eq_true hh1]; done)) d_M_value_15
  · skip
    refine lv_iload_n hx hb d_M_value_7 rfl (lv_at hl 2 rfl) ?_
    refine z_callS C h (k_M_isFour l dC dI k q X M a) co_M_isFour ml_M_139 sc_M_isFour in_M hd_M_isFour ⟨by decide, by decide⟩ ⟨Nat.zero_le _, Nat.zero_le _⟩ hl.1 (Nat.le_of_ble_eq_true rfl) d_M_value_8 rfl (fun H locs h => ?_)
    refine W.eq (g2 := F0 m 11 ls [.int (m_four a)]) rfl ?_
    have h : zH dC dI k q X M (zA q) s.heap H locs := h
    refine lv_if_ne (tgt := 16) hx hb d_M_value_11 (by decide) (fun hh2 => ?_) (fun hh2 => ?_)
    · skip
      refine lv_aload_n hx hb d_M_value_16 rfl (lv_at hl 0 rfl) ?_
      refine g_M_7 C h d_M_value_17 ?_
      refine lv_iconst (v := 4) hx hb d_M_value_20 (by decide) ?_
      refine lv_iload_n hx hb d_M_value_21 rfl (lv_at hl 1 rfl) ?_
      refine lv_imul hx hb d_M_value_22 ?_
      refine lv_iload_n hx hb d_M_value_23 rfl (lv_at hl 2 rfl) ?_
      refine lv_iadd hx hb d_M_value_24 ?_
      refine l_M0 C h (vp4 (four_in hh1) (four_in hh2)) d_M_value_25 ?_
      refine lv_istore_n hx hb d_M_value_26 rfl hl (by decide) rfl (fun ls hl => ?_)
      have hl : lv_has ls 4 [(3, .int (M 0 (Int32.toNatClampNeg ((4 * co) + a)))), (0, .ref (q 37)), (1, .int co), (2, .int a)] := hl
      refine lv_iload_n hx hb d_M_value_27 rfl (lv_at hl 0 rfl) ?_
      refine lv_if_eq (tgt := 47) hx hb d_M_value_28 (by decide) (fun hh3 => ?_) (fun hh3 => ?_)
      · skip
        refine lv_iconst (v := 0) hx hb d_M_value_47 (by decide) ?_
        refine lv_goto (tgt := 61) hx hb d_M_value_48 (by decide) ?_
        exact z_retE C h hr hk (by first | rfl | (simp only [r_M_value, eq_false hh1, eq_false hh2, eq_true hh3, ↓reduceIte]; done) | (simp [r_M_value, eq_false hh1, eq_false hh2, eq_true hh3]; done)) (by first | rfl | (simp only [r_M_value, eq_false hh1, eq_false hh2, eq_true hh3, ↓reduceIte]; done) | (simp [r_M_value, eq_false hh1, eq_false hh2, eq_true hh3]; done)) (by first | rfl | (simp only [r_M_value, eq_false hh1, eq_false hh2, eq_true hh3, ↓reduceIte]; done) | (simp [r_M_value, eq_false hh1, eq_false hh2, eq_true hh3]; done)) d_M_value_61
      · skip
        refine lv_iload_n hx hb d_M_value_31 rfl (lv_at hl 0 rfl) ?_
        refine lv_iconst (v := 4) hx hb d_M_value_32 (by decide) ?_
        refine lv_icmp_eq (tgt := 47) hx hb d_M_value_33 (by decide) (fun hh4 => ?_) (fun hh4 => ?_)
        · skip
          refine lv_iconst (v := 0) hx hb d_M_value_47 (by decide) ?_
          refine lv_goto (tgt := 61) hx hb d_M_value_48 (by decide) ?_
          exact z_retE C h hr hk (by first | rfl | (simp only [r_M_value, eq_false hh1, eq_false hh2, eq_false hh3, eq_true hh4, ↓reduceIte]; done) | (simp [r_M_value, eq_false hh1, eq_false hh2, eq_false hh3, eq_true hh4]; done)) (by first | rfl | (simp only [r_M_value, eq_false hh1, eq_false hh2, eq_false hh3, eq_true hh4, ↓reduceIte]; done) | (simp [r_M_value, eq_false hh1, eq_false hh2, eq_false hh3, eq_true hh4]; done)) (by first | rfl | (simp only [r_M_value, eq_false hh1, eq_false hh2, eq_false hh3, eq_true hh4, ↓reduceIte]; done) | (simp [r_M_value, eq_false hh1, eq_false hh2, eq_false hh3, eq_true hh4]; done)) d_M_value_61
        · skip
          refine lv_iload_n hx hb d_M_value_36 rfl (lv_at hl 0 rfl) ?_
          refine lv_iconst (v := 5) hx hb d_M_value_37 (by decide) ?_
          refine lv_icmp_eq (tgt := 47) hx hb d_M_value_38 (by decide) (fun hh5 => ?_) (fun hh5 => ?_)
          · skip
            refine lv_iconst (v := 0) hx hb d_M_value_47 (by decide) ?_
            refine lv_goto (tgt := 61) hx hb d_M_value_48 (by decide) ?_
            exact z_retE C h hr hk (by first | rfl | (simp only [r_M_value, eq_false hh1, eq_false hh2, eq_false hh3, eq_false hh4, eq_true hh5, ↓reduceIte]; done) | (simp [r_M_value, eq_false hh1, eq_false hh2, eq_false hh3, eq_false hh4, eq_true hh5]; done)) (by first | rfl | (simp only [r_M_value, eq_false hh1, eq_false hh2, eq_false hh3, eq_false hh4, eq_true hh5, ↓reduceIte]; done) | (simp [r_M_value, eq_false hh1, eq_false hh2, eq_false hh3, eq_false hh4, eq_true hh5]; done)) (by first | rfl | (simp only [r_M_value, eq_false hh1, eq_false hh2, eq_false hh3, eq_false hh4, eq_true hh5, ↓reduceIte]; done) | (simp [r_M_value, eq_false hh1, eq_false hh2, eq_false hh3, eq_false hh4, eq_true hh5]; done)) d_M_value_61
          · skip
            refine lv_iload_n hx hb d_M_value_41 rfl (lv_at hl 0 rfl) ?_
            refine lv_bipush (v := 12) hx hb d_M_value_42 (by decide) ?_
            refine lv_icmp_ne (tgt := 51) hx hb d_M_value_44 (by decide) (fun hh6 => ?_) (fun hh6 => ?_)
            · skip
              refine lv_aload_n hx hb d_M_value_51 rfl (lv_at hl 1 rfl) ?_
              refine g_M_13 C h d_M_value_52 ?_
              refine lv_iconst (v := 4) hx hb d_M_value_55 (by decide) ?_
              refine lv_iload_n hx hb d_M_value_56 rfl (lv_at hl 2 rfl) ?_
              refine lv_imul hx hb d_M_value_57 ?_
              refine lv_iload_n hx hb d_M_value_58 rfl (lv_at hl 3 rfl) ?_
              refine lv_iadd hx hb d_M_value_59 ?_
              refine l_M1 C h (vp4 (four_in hh1) (four_in hh2)) d_M_value_60 ?_
              exact z_retE C h hr hk (by first | rfl | (simp only [r_M_value, eq_false hh1, eq_false hh2, eq_false hh3, eq_false hh4, eq_false hh5, eq_false hh6, ↓reduceIte]; done) | (simp [r_M_value, eq_false hh1, eq_false hh2, eq_false hh3, eq_false hh4, eq_false hh5, eq_false hh6]; done)) (by first | rfl | (simp only [r_M_value, eq_false hh1, eq_false hh2, eq_false hh3, eq_false hh4, eq_false hh5, eq_false hh6, ↓reduceIte]; done) | (simp [r_M_value, eq_false hh1, eq_false hh2, eq_false hh3, eq_false hh4, eq_false hh5, eq_false hh6]; done)) (by first | rfl | (simp only [r_M_value, eq_false hh1, eq_false hh2, eq_false hh3, eq_false hh4, eq_false hh5, eq_false hh6, ↓reduceIte]; done) | (simp [r_M_value, eq_false hh1, eq_false hh2, eq_false hh3, eq_false hh4, eq_false hh5, eq_false hh6]; done)) d_M_value_61
            · skip
              refine lv_iconst (v := 0) hx hb d_M_value_47 (by decide) ?_
              refine lv_goto (tgt := 61) hx hb d_M_value_48 (by decide) ?_
              exact z_retE C h hr hk (by first | rfl | (simp only [r_M_value, eq_false hh1, eq_false hh2, eq_false hh3, eq_false hh4, eq_false hh5, eq_true hh6, ↓reduceIte]; done) | (simp [r_M_value, eq_false hh1, eq_false hh2, eq_false hh3, eq_false hh4, eq_false hh5, eq_true hh6]; done)) (by first | rfl | (simp only [r_M_value, eq_false hh1, eq_false hh2, eq_false hh3, eq_false hh4, eq_false hh5, eq_true hh6, ↓reduceIte]; done) | (simp [r_M_value, eq_false hh1, eq_false hh2, eq_false hh3, eq_false hh4, eq_false hh5, eq_true hh6]; done)) (by first | rfl | (simp only [r_M_value, eq_false hh1, eq_false hh2, eq_false hh3, eq_false hh4, eq_false hh5, eq_true hh6, ↓reduceIte]; done) | (simp [r_M_value, eq_false hh1, eq_false hh2, eq_false hh3, eq_false hh4, eq_false hh5, eq_true hh6]; done)) d_M_value_61
    · skip
      refine lv_iconst (v := 0) hx hb d_M_value_14 (by decide) ?_
      exact z_retE C h hr hk (by first | rfl | (simp only [r_M_value, eq_false hh1, eq_true hh2, ↓reduceIte]; done) | (simp [r_M_value, eq_false hh1, eq_true hh2]; done)) (by first | rfl | (simp only [r_M_value, eq_false hh1, eq_true hh2, ↓reduceIte]; done) | (simp [r_M_value, eq_false hh1, eq_true hh2]; done)) (by first | rfl | (simp only [r_M_value, eq_false hh1, eq_true hh2, ↓reduceIte]; done) | (simp [r_M_value, eq_false hh1, eq_true hh2]; done)) d_M_value_15
theorem hd_M_due : y_M_due.cls ≠ "java/lang/invoke/MethodHandle" ∧ y_M_due.cls ≠ "java/lang/invoke/VarHandle" ∧ (parseMethodDescriptor y_M_due.desc).map (fun d => d.parameters.length) = some 2 := by decide +kernel
def r_M_due (X : zXS) (M : zMS) (co : Int32) (a : Int32) : Int32 := (if (m_four co) = 0 then (-1) else (if (m_four a) = 0 then (-1) else (if (M 0 (Int32.toNatClampNeg ((4 * co) + a))) = 6 then ((M 2 (Int32.toNatClampNeg ((4 * co) + a))) - (M 3 (Int32.toNatClampNeg ((4 * co) + a)))) else (if (M 0 (Int32.toNatClampNeg ((4 * co) + a))) = 8 then ((M 2 (Int32.toNatClampNeg ((4 * co) + a))) - (M 3 (Int32.toNatClampNeg ((4 * co) + a)))) else (if (M 0 (Int32.toNatClampNeg ((4 * co) + a))) = 5 then (-(M 3 (Int32.toNatClampNeg ((4 * co) + a)))) else (if (M 0 (Int32.toNatClampNeg ((4 * co) + a))) = 7 then (-(M 3 (Int32.toNatClampNeg ((4 * co) + a)))) else 0))))))
set_option maxHeartbeats 1000000 in
set_option maxRecDepth 100000 in
theorem k_M_due (l : Launch) (dC : Nat → ClassId) (dI : Nat → Nat → Nat) (k : Nat → ClassId) (q : Nat → Nat) (X : zXS) (M : zMS) (co : Int32) (a : Int32)   : zMet l dC dI k q y_M_due c_M_due 5 (some .int) 1 20 [.ref (q 37), .int co, .int a] (some (.int (r_M_due X M co a))) X M X M := by
  refine zMet.of (by decide) (Nat.le_of_ble_eq_true rfl) ?_
  intro p e s m args below meth c ls C hr hk hl h
  have hx := C.1
  have hb := C.2.1
  have hl : lv_has ls 5 [(0, .ref (q 37)), (1, .int co), (2, .int a)] := hl
  refine lv_iload_n hx hb d_M_due_0 rfl (lv_at hl 1 rfl) ?_
  refine z_callS C h (k_M_isFour l dC dI k q X M co) co_M_isFour ml_M_139 sc_M_isFour in_M hd_M_isFour ⟨by decide, by decide⟩ ⟨Nat.zero_le _, Nat.zero_le _⟩ hl.1 (Nat.le_of_ble_eq_true rfl) d_M_due_1 rfl (fun H locs h => ?_)
  refine W.eq (g2 := F0 m 4 ls [.int (m_four co)]) rfl ?_
  have h : zH dC dI k q X M (zA q) s.heap H locs := h
  refine lv_if_eq (tgt := 14) hx hb d_M_due_4 (by decide) (fun hh1 => ?_) (fun hh1 => ?_)
  · skip
    refine lv_iconst (v := -1) hx hb d_M_due_14 (by decide) ?_
    exact z_retE C h hr hk (by first | rfl | (simp only [r_M_due, eq_true hh1, ↓reduceIte]; done) | (simp [r_M_due, eq_true hh1]; done)) (by first | rfl | (simp only [r_M_due, eq_true hh1, ↓reduceIte]; done) | (simp [r_M_due, eq_true hh1]; done)) (by first | rfl | (simp only [r_M_due, eq_true hh1, ↓reduceIte]; done) | (simp [r_M_due, eq_true hh1]; done)) d_M_due_15
  · skip
    refine lv_iload_n hx hb d_M_due_7 rfl (lv_at hl 2 rfl) ?_
    refine z_callS C h (k_M_isFour l dC dI k q X M a) co_M_isFour ml_M_139 sc_M_isFour in_M hd_M_isFour ⟨by decide, by decide⟩ ⟨Nat.zero_le _, Nat.zero_le _⟩ hl.1 (Nat.le_of_ble_eq_true rfl) d_M_due_8 rfl (fun H locs h => ?_)
    refine W.eq (g2 := F0 m 11 ls [.int (m_four a)]) rfl ?_
    have h : zH dC dI k q X M (zA q) s.heap H locs := h
    refine lv_if_ne (tgt := 16) hx hb d_M_due_11 (by decide) (fun hh2 => ?_) (fun hh2 => ?_)
    · skip
      refine lv_iconst (v := 4) hx hb d_M_due_16 (by decide) ?_
      refine lv_iload_n hx hb d_M_due_17 rfl (lv_at hl 1 rfl) ?_
      refine lv_imul hx hb d_M_due_18 ?_
      refine lv_iload_n hx hb d_M_due_19 rfl (lv_at hl 2 rfl) ?_
      refine lv_iadd hx hb d_M_due_20 ?_
      refine lv_istore_n hx hb d_M_due_21 rfl hl (by decide) rfl (fun ls hl => ?_)
      have hl : lv_has ls 5 [(3, .int ((4 * co) + a)), (0, .ref (q 37)), (1, .int co), (2, .int a)] := hl
      refine lv_aload_n hx hb d_M_due_22 rfl (lv_at hl 1 rfl) ?_
      refine g_M_7 C h d_M_due_23 ?_
      refine lv_iload_n hx hb d_M_due_26 rfl (lv_at hl 0 rfl) ?_
      refine l_M0 C h (vp4 (four_in hh1) (four_in hh2)) d_M_due_27 ?_
      refine lv_istore hx hb d_M_due_28 hl (by decide) rfl (fun ls hl => ?_)
      have hl : lv_has ls 5 [(4, .int (M 0 (Int32.toNatClampNeg ((4 * co) + a)))), (3, .int ((4 * co) + a)), (0, .ref (q 37)), (1, .int co), (2, .int a)] := hl
      refine lv_iload hx hb d_M_due_30 (lv_at hl 0 rfl) ?_
      refine lv_bipush (v := 6) hx hb d_M_due_32 (by decide) ?_
      refine lv_icmp_eq (tgt := 44) hx hb d_M_due_34 (by decide) (fun hh3 => ?_) (fun hh3 => ?_)
      · skip
        refine lv_aload_n hx hb d_M_due_44 rfl (lv_at hl 2 rfl) ?_
        refine g_M_16 C h d_M_due_45 ?_
        refine lv_iload_n hx hb d_M_due_48 rfl (lv_at hl 1 rfl) ?_
        refine l_M2 C h (vp4 (four_in hh1) (four_in hh2)) d_M_due_49 ?_
        refine lv_aload_n hx hb d_M_due_50 rfl (lv_at hl 2 rfl) ?_
        refine g_M_19 C h d_M_due_51 ?_
        refine lv_iload_n hx hb d_M_due_54 rfl (lv_at hl 1 rfl) ?_
        refine l_M3 C h (vp4 (four_in hh1) (four_in hh2)) d_M_due_55 ?_
        refine lv_isub hx hb d_M_due_56 ?_
        refine lv_goto (tgt := 84) hx hb d_M_due_57 (by decide) ?_
        exact z_retE C h hr hk (by first | rfl | (simp only [r_M_due, eq_false hh1, eq_false hh2, eq_true hh3, ↓reduceIte]; done) | (simp [r_M_due, eq_false hh1, eq_false hh2, eq_true hh3]; done)) (by first | rfl | (simp only [r_M_due, eq_false hh1, eq_false hh2, eq_true hh3, ↓reduceIte]; done) | (simp [r_M_due, eq_false hh1, eq_false hh2, eq_true hh3]; done)) (by first | rfl | (simp only [r_M_due, eq_false hh1, eq_false hh2, eq_true hh3, ↓reduceIte]; done) | (simp [r_M_due, eq_false hh1, eq_false hh2, eq_true hh3]; done)) d_M_due_84
      · skip
        refine lv_iload hx hb d_M_due_37 (lv_at hl 0 rfl) ?_
        refine lv_bipush (v := 8) hx hb d_M_due_39 (by decide) ?_
        refine lv_icmp_ne (tgt := 60) hx hb d_M_due_41 (by decide) (fun hh4 => ?_) (fun hh4 => ?_)
        · skip
          refine lv_iload hx hb d_M_due_60 (lv_at hl 0 rfl) ?_
          refine lv_iconst (v := 5) hx hb d_M_due_62 (by decide) ?_
          refine lv_icmp_eq (tgt := 73) hx hb d_M_due_63 (by decide) (fun hh5 => ?_) (fun hh5 => ?_)
          · skip
            refine lv_aload_n hx hb d_M_due_73 rfl (lv_at hl 2 rfl) ?_
            refine g_M_19 C h d_M_due_74 ?_
            refine lv_iload_n hx hb d_M_due_77 rfl (lv_at hl 1 rfl) ?_
            refine l_M3 C h (vp4 (four_in hh1) (four_in hh2)) d_M_due_78 ?_
            refine lv_ineg hx hb d_M_due_79 ?_
            refine lv_goto (tgt := 84) hx hb d_M_due_80 (by decide) ?_
            exact z_retE C h hr hk (by first | rfl | (simp only [r_M_due, eq_false hh1, eq_false hh2, eq_false hh3, eq_false hh4, eq_true hh5, ↓reduceIte]; done) | (simp [r_M_due, eq_false hh1, eq_false hh2, eq_false hh3, eq_false hh4, eq_true hh5]; done)) (by first | rfl | (simp only [r_M_due, eq_false hh1, eq_false hh2, eq_false hh3, eq_false hh4, eq_true hh5, ↓reduceIte]; done) | (simp [r_M_due, eq_false hh1, eq_false hh2, eq_false hh3, eq_false hh4, eq_true hh5]; done)) (by first | rfl | (simp only [r_M_due, eq_false hh1, eq_false hh2, eq_false hh3, eq_false hh4, eq_true hh5, ↓reduceIte]; done) | (simp [r_M_due, eq_false hh1, eq_false hh2, eq_false hh3, eq_false hh4, eq_true hh5]; done)) d_M_due_84
          · skip
            refine lv_iload hx hb d_M_due_66 (lv_at hl 0 rfl) ?_
            refine lv_bipush (v := 7) hx hb d_M_due_68 (by decide) ?_
            refine lv_icmp_ne (tgt := 83) hx hb d_M_due_70 (by decide) (fun hh6 => ?_) (fun hh6 => ?_)
            · skip
              refine lv_iconst (v := 0) hx hb d_M_due_83 (by decide) ?_
              exact z_retE C h hr hk (by first | rfl | (simp only [r_M_due, eq_false hh1, eq_false hh2, eq_false hh3, eq_false hh4, eq_false hh5, eq_false hh6, ↓reduceIte]; done) | (simp [r_M_due, eq_false hh1, eq_false hh2, eq_false hh3, eq_false hh4, eq_false hh5, eq_false hh6]; done)) (by first | rfl | (simp only [r_M_due, eq_false hh1, eq_false hh2, eq_false hh3, eq_false hh4, eq_false hh5, eq_false hh6, ↓reduceIte]; done) | (simp [r_M_due, eq_false hh1, eq_false hh2, eq_false hh3, eq_false hh4, eq_false hh5, eq_false hh6]; done)) (by first | rfl | (simp only [r_M_due, eq_false hh1, eq_false hh2, eq_false hh3, eq_false hh4, eq_false hh5, eq_false hh6, ↓reduceIte]; done) | (simp [r_M_due, eq_false hh1, eq_false hh2, eq_false hh3, eq_false hh4, eq_false hh5, eq_false hh6]; done)) d_M_due_84
            · skip
              refine lv_aload_n hx hb d_M_due_73 rfl (lv_at hl 2 rfl) ?_
              refine g_M_19 C h d_M_due_74 ?_
              refine lv_iload_n hx hb d_M_due_77 rfl (lv_at hl 1 rfl) ?_
              refine l_M3 C h (vp4 (four_in hh1) (four_in hh2)) d_M_due_78 ?_
              refine lv_ineg hx hb d_M_due_79 ?_
              refine lv_goto (tgt := 84) hx hb d_M_due_80 (by decide) ?_
              exact z_retE C h hr hk (by first | rfl | (simp only [r_M_due, eq_false hh1, eq_false hh2, eq_false hh3, eq_false hh4, eq_false hh5, eq_true hh6, ↓reduceIte]; done) | (simp [r_M_due, eq_false hh1, eq_false hh2, eq_false hh3, eq_false hh4, eq_false hh5, eq_true hh6]; done)) (by first | rfl | (simp only [r_M_due, eq_false hh1, eq_false hh2, eq_false hh3, eq_false hh4, eq_false hh5, eq_true hh6, ↓reduceIte]; done) | (simp [r_M_due, eq_false hh1, eq_false hh2, eq_false hh3, eq_false hh4, eq_false hh5, eq_true hh6]; done)) (by first | rfl | (simp only [r_M_due, eq_false hh1, eq_false hh2, eq_false hh3, eq_false hh4, eq_false hh5, eq_true hh6, ↓reduceIte]; done) | (simp [r_M_due, eq_false hh1, eq_false hh2, eq_false hh3, eq_false hh4, eq_false hh5, eq_true hh6]; done)) d_M_due_84
        · skip
          refine lv_aload_n hx hb d_M_due_44 rfl (lv_at hl 2 rfl) ?_
          refine g_M_16 C h d_M_due_45 ?_
          refine lv_iload_n hx hb d_M_due_48 rfl (lv_at hl 1 rfl) ?_
          refine l_M2 C h (vp4 (four_in hh1) (four_in hh2)) d_M_due_49 ?_
          refine lv_aload_n hx hb d_M_due_50 rfl (lv_at hl 2 rfl) ?_
          refine g_M_19 C h d_M_due_51 ?_
          refine lv_iload_n hx hb d_M_due_54 rfl (lv_at hl 1 rfl) ?_
          refine l_M3 C h (vp4 (four_in hh1) (four_in hh2)) d_M_due_55 ?_
          refine lv_isub hx hb d_M_due_56 ?_
          refine lv_goto (tgt := 84) hx hb d_M_due_57 (by decide) ?_
          exact z_retE C h hr hk (by first | rfl | (simp only [r_M_due, eq_false hh1, eq_false hh2, eq_false hh3, eq_true hh4, ↓reduceIte]; done) | (simp [r_M_due, eq_false hh1, eq_false hh2, eq_false hh3, eq_true hh4]; done)) (by first | rfl | (simp only [r_M_due, eq_false hh1, eq_false hh2, eq_false hh3, eq_true hh4, ↓reduceIte]; done) | (simp [r_M_due, eq_false hh1, eq_false hh2, eq_false hh3, eq_true hh4]; done)) (by first | rfl | (simp only [r_M_due, eq_false hh1, eq_false hh2, eq_false hh3, eq_true hh4, ↓reduceIte]; done) | (simp [r_M_due, eq_false hh1, eq_false hh2, eq_false hh3, eq_true hh4]; done)) d_M_due_84
    · skip
      refine lv_iconst (v := -1) hx hb d_M_due_14 (by decide) ?_
      exact z_retE C h hr hk (by first | rfl | (simp only [r_M_due, eq_false hh1, eq_true hh2, ↓reduceIte]; done) | (simp [r_M_due, eq_false hh1, eq_true hh2]; done)) (by first | rfl | (simp only [r_M_due, eq_false hh1, eq_true hh2, ↓reduceIte]; done) | (simp [r_M_due, eq_false hh1, eq_true hh2]; done)) (by first | rfl | (simp only [r_M_due, eq_false hh1, eq_true hh2, ↓reduceIte]; done) | (simp [r_M_due, eq_false hh1, eq_true hh2]; done)) d_M_due_15
theorem hd_M_home : y_M_home.cls ≠ "java/lang/invoke/MethodHandle" ∧ y_M_home.cls ≠ "java/lang/invoke/VarHandle" ∧ (parseMethodDescriptor y_M_home.desc).map (fun d => d.parameters.length) = some 1 := by decide +kernel
def jS0_M_home_31_1 (X : zXS) (M : zMS) (a : Int32) : Int32 := (if (M 11 (Int32.toNatClampNeg a)) = 2 then ((M 12 (Int32.toNatClampNeg a)) + 1) else 0)
def r_M_home (X : zXS) (M : zMS) (a : Int32) : Int32 := (if (m_four a) = 0 then (-1) else (((M 11 (Int32.toNatClampNeg a)) + (4 * (jS0_M_home_31_1 X M a))) + (32 * (M 13 (Int32.toNatClampNeg a)))))
set_option maxHeartbeats 1000000 in
set_option maxRecDepth 100000 in
theorem k_M_home (l : Launch) (dC : Nat → ClassId) (dI : Nat → Nat → Nat) (k : Nat → ClassId) (q : Nat → Nat) (X : zXS) (M : zMS) (a : Int32)   : zMet l dC dI k q y_M_home c_M_home 3 (some .int) 1 20 [.ref (q 37), .int a] (some (.int (r_M_home X M a))) X M X M := by
  refine zMet.of (by decide) (Nat.le_of_ble_eq_true rfl) ?_
  intro p e s m args below meth c ls C hr hk hl h
  have hx := C.1
  have hb := C.2.1
  have hl : lv_has ls 3 [(0, .ref (q 37)), (1, .int a)] := hl
  refine lv_iload_n hx hb d_M_home_0 rfl (lv_at hl 1 rfl) ?_
  refine z_callS C h (k_M_isFour l dC dI k q X M a) co_M_isFour ml_M_139 sc_M_isFour in_M hd_M_isFour ⟨by decide, by decide⟩ ⟨Nat.zero_le _, Nat.zero_le _⟩ hl.1 (Nat.le_of_ble_eq_true rfl) d_M_home_1 rfl (fun H locs h => ?_)
  refine W.eq (g2 := F0 m 4 ls [.int (m_four a)]) rfl ?_
  have h : zH dC dI k q X M (zA q) s.heap H locs := h
  refine lv_if_ne (tgt := 9) hx hb d_M_home_4 (by decide) (fun hh1 => ?_) (fun hh1 => ?_)
  · skip
    have J31_1 : ∀ (ls : Array Slot) (H : Heap) (locs : List Loc), lv_has ls 3 [(0, .ref (q 37)), (1, .int a)] → zH dC dI k q X M (zA q) s.heap H locs → W p l e { frames := 1, cells := 0, slots := 0, locals := 20 } s m args below meth c H locs 0 0 (MQ below (zQc dC dI k q X M (some (.int (r_M_home X M a)))) args s 0 0 (zA q)) (F0 m 31 ls [.int (jS0_M_home_31_1 X M a)]) := by
      intro ls H locs hl h
      refine lv_istore_n hx hb d_M_home_31 rfl hl (by decide) rfl (fun ls hl => ?_)
      have hl : lv_has ls 3 [(2, .int (jS0_M_home_31_1 X M a)), (0, .ref (q 37)), (1, .int a)] := hl
      refine lv_aload_n hx hb d_M_home_32 rfl (lv_at hl 1 rfl) ?_
      refine g_M_44 C h d_M_home_33 ?_
      refine lv_iload_n hx hb d_M_home_36 rfl (lv_at hl 2 rfl) ?_
      refine l_M11 C h (four_in hh1) d_M_home_37 ?_
      refine lv_iconst (v := 4) hx hb d_M_home_38 (by decide) ?_
      refine lv_iload_n hx hb d_M_home_39 rfl (lv_at hl 0 rfl) ?_
      refine lv_imul hx hb d_M_home_40 ?_
      refine lv_iadd hx hb d_M_home_41 ?_
      refine lv_bipush (v := 32) hx hb d_M_home_42 (by decide) ?_
      refine lv_aload_n hx hb d_M_home_44 rfl (lv_at hl 1 rfl) ?_
      refine g_M_50 C h d_M_home_45 ?_
      refine lv_iload_n hx hb d_M_home_48 rfl (lv_at hl 2 rfl) ?_
      refine l_M13 C h (four_in hh1) d_M_home_49 ?_
      refine lv_imul hx hb d_M_home_50 ?_
      refine lv_iadd hx hb d_M_home_51 ?_
      exact z_retE C h hr hk (by first | rfl | (simp only [r_M_home, eq_false hh1, ↓reduceIte]; done) | (simp [r_M_home, eq_false hh1]; done)) (by first | rfl | (simp only [r_M_home, eq_false hh1, ↓reduceIte]; done) | (simp [r_M_home, eq_false hh1]; done)) (by first | rfl | (simp only [r_M_home, eq_false hh1, ↓reduceIte]; done) | (simp [r_M_home, eq_false hh1]; done)) d_M_home_52
    refine lv_aload_n hx hb d_M_home_9 rfl (lv_at hl 0 rfl) ?_
    refine g_M_44 C h d_M_home_10 ?_
    refine lv_iload_n hx hb d_M_home_13 rfl (lv_at hl 1 rfl) ?_
    refine l_M11 C h (four_in hh1) d_M_home_14 ?_
    refine lv_iconst (v := 2) hx hb d_M_home_15 (by decide) ?_
    refine lv_icmp_ne (tgt := 30) hx hb d_M_home_16 (by decide) (fun hh2 => ?_) (fun hh2 => ?_)
    · skip
      refine lv_iconst (v := 0) hx hb d_M_home_30 (by decide) ?_
      have J := J31_1 _ _ _ (lv_sub hl [0, 1] rfl) h
      rw [show (jS0_M_home_31_1 X M a) = 0 from (by first | (simp only [jS0_M_home_31_1, eq_false hh1, eq_false hh2, ↓reduceIte]; done) | (simp [jS0_M_home_31_1, eq_false hh1, eq_false hh2]; done))] at J
      exact J
    · skip
      refine lv_aload_n hx hb d_M_home_19 rfl (lv_at hl 0 rfl) ?_
      refine g_M_47 C h d_M_home_20 ?_
      refine lv_iload_n hx hb d_M_home_23 rfl (lv_at hl 1 rfl) ?_
      refine l_M12 C h (four_in hh1) d_M_home_24 ?_
      refine lv_iconst (v := 1) hx hb d_M_home_25 (by decide) ?_
      refine lv_iadd hx hb d_M_home_26 ?_
      refine lv_goto (tgt := 31) hx hb d_M_home_27 (by decide) ?_
      have J := J31_1 _ _ _ (lv_sub hl [0, 1] rfl) h
      rw [show (jS0_M_home_31_1 X M a) = ((M 12 (Int32.toNatClampNeg a)) + 1) from (by first | (simp only [jS0_M_home_31_1, eq_false hh1, eq_true hh2, ↓reduceIte]; done) | (simp [jS0_M_home_31_1, eq_false hh1, eq_true hh2]; done))] at J
      exact J
  · skip
    refine lv_iconst (v := -1) hx hb d_M_home_7 (by decide) ?_
    exact z_retE C h hr hk (by first | rfl | (simp only [r_M_home, eq_true hh1, ↓reduceIte]; done) | (simp [r_M_home, eq_true hh1]; done)) (by first | rfl | (simp only [r_M_home, eq_true hh1, ↓reduceIte]; done) | (simp [r_M_home, eq_true hh1]; done)) (by first | rfl | (simp only [r_M_home, eq_true hh1, ↓reduceIte]; done) | (simp [r_M_home, eq_true hh1]; done)) d_M_home_8
theorem hd_M_memory : y_M_memory.cls ≠ "java/lang/invoke/MethodHandle" ∧ y_M_memory.cls ≠ "java/lang/invoke/VarHandle" ∧ (parseMethodDescriptor y_M_memory.desc).map (fun d => d.parameters.length) = some 1 := by decide +kernel
def r_M_memory (X : zXS) (M : zMS) (a : Int32) : Int32 := (if (m_four a) = 0 then 0 else (M 14 (Int32.toNatClampNeg a)))
set_option maxHeartbeats 1000000 in
set_option maxRecDepth 100000 in
theorem k_M_memory (l : Launch) (dC : Nat → ClassId) (dI : Nat → Nat → Nat) (k : Nat → ClassId) (q : Nat → Nat) (X : zXS) (M : zMS) (a : Int32)   : zMet l dC dI k q y_M_memory c_M_memory 2 (some .int) 1 20 [.ref (q 37), .int a] (some (.int (r_M_memory X M a))) X M X M := by
  refine zMet.of (by decide) (Nat.le_of_ble_eq_true rfl) ?_
  intro p e s m args below meth c ls C hr hk hl h
  have hx := C.1
  have hb := C.2.1
  have hl : lv_has ls 2 [(0, .ref (q 37)), (1, .int a)] := hl
  refine lv_iload_n hx hb d_M_memory_0 rfl (lv_at hl 1 rfl) ?_
  refine z_callS C h (k_M_isFour l dC dI k q X M a) co_M_isFour ml_M_139 sc_M_isFour in_M hd_M_isFour ⟨by decide, by decide⟩ ⟨Nat.zero_le _, Nat.zero_le _⟩ hl.1 (Nat.le_of_ble_eq_true rfl) d_M_memory_1 rfl (fun H locs h => ?_)
  refine W.eq (g2 := F0 m 4 ls [.int (m_four a)]) rfl ?_
  have h : zH dC dI k q X M (zA q) s.heap H locs := h
  refine lv_if_eq (tgt := 16) hx hb d_M_memory_4 (by decide) (fun hh1 => ?_) (fun hh1 => ?_)
  · skip
    refine lv_iconst (v := 0) hx hb d_M_memory_16 (by decide) ?_
    exact z_retE C h hr hk (by first | rfl | (simp only [r_M_memory, eq_true hh1, ↓reduceIte]; done) | (simp [r_M_memory, eq_true hh1]; done)) (by first | rfl | (simp only [r_M_memory, eq_true hh1, ↓reduceIte]; done) | (simp [r_M_memory, eq_true hh1]; done)) (by first | rfl | (simp only [r_M_memory, eq_true hh1, ↓reduceIte]; done) | (simp [r_M_memory, eq_true hh1]; done)) d_M_memory_17
  · skip
    refine lv_aload_n hx hb d_M_memory_7 rfl (lv_at hl 0 rfl) ?_
    refine g_M_53 C h d_M_memory_8 ?_
    refine lv_iload_n hx hb d_M_memory_11 rfl (lv_at hl 1 rfl) ?_
    refine l_M14 C h (four_in hh1) d_M_memory_12 ?_
    refine lv_goto (tgt := 17) hx hb d_M_memory_13 (by decide) ?_
    exact z_retE C h hr hk (by first | rfl | (simp only [r_M_memory, eq_false hh1, ↓reduceIte]; done) | (simp [r_M_memory, eq_false hh1]; done)) (by first | rfl | (simp only [r_M_memory, eq_false hh1, ↓reduceIte]; done) | (simp [r_M_memory, eq_false hh1]; done)) (by first | rfl | (simp only [r_M_memory, eq_false hh1, ↓reduceIte]; done) | (simp [r_M_memory, eq_false hh1]; done)) d_M_memory_17
theorem hd_M_waits : y_M_waits.cls ≠ "java/lang/invoke/MethodHandle" ∧ y_M_waits.cls ≠ "java/lang/invoke/VarHandle" ∧ (parseMethodDescriptor y_M_waits.desc).map (fun d => d.parameters.length) = some 1 := by decide +kernel
def r_M_waits (X : zXS) (M : zMS) (a : Int32) : Int32 := (if (m_four a) = 0 then 0 else (if (M 5 (Int32.toNatClampNeg a)) = 0 then 0 else 1))
set_option maxHeartbeats 1000000 in
set_option maxRecDepth 100000 in
theorem k_M_waits (l : Launch) (dC : Nat → ClassId) (dI : Nat → Nat → Nat) (k : Nat → ClassId) (q : Nat → Nat) (X : zXS) (M : zMS) (a : Int32)   : zMet l dC dI k q y_M_waits c_M_waits 2 (some .boolean) 1 20 [.ref (q 37), .int a] (some (.int (r_M_waits X M a))) X M X M := by
  refine zMet.of (by decide) (Nat.le_of_ble_eq_true rfl) ?_
  intro p e s m args below meth c ls C hr hk hl h
  have hx := C.1
  have hb := C.2.1
  have hl : lv_has ls 2 [(0, .ref (q 37)), (1, .int a)] := hl
  refine lv_iload_n hx hb d_M_waits_0 rfl (lv_at hl 1 rfl) ?_
  refine z_callS C h (k_M_isFour l dC dI k q X M a) co_M_isFour ml_M_139 sc_M_isFour in_M hd_M_isFour ⟨by decide, by decide⟩ ⟨Nat.zero_le _, Nat.zero_le _⟩ hl.1 (Nat.le_of_ble_eq_true rfl) d_M_waits_1 rfl (fun H locs h => ?_)
  refine W.eq (g2 := F0 m 4 ls [.int (m_four a)]) rfl ?_
  have h : zH dC dI k q X M (zA q) s.heap H locs := h
  refine lv_if_eq (tgt := 20) hx hb d_M_waits_4 (by decide) (fun hh1 => ?_) (fun hh1 => ?_)
  · skip
    refine lv_iconst (v := 0) hx hb d_M_waits_20 (by decide) ?_
    exact z_retzE C h hr hk (by first | exact Or.inl rfl | exact Or.inr rfl) (by first | rfl | (simp only [r_M_waits, eq_true hh1, ↓reduceIte]; done) | (simp [r_M_waits, eq_true hh1]; done)) (by first | rfl | (simp only [r_M_waits, eq_true hh1, ↓reduceIte]; done) | (simp [r_M_waits, eq_true hh1]; done)) (by first | rfl | (simp only [r_M_waits, eq_true hh1, ↓reduceIte]; done) | (simp [r_M_waits, eq_true hh1]; done)) d_M_waits_21
  · skip
    refine lv_aload_n hx hb d_M_waits_7 rfl (lv_at hl 0 rfl) ?_
    refine g_M_25 C h d_M_waits_8 ?_
    refine lv_iload_n hx hb d_M_waits_11 rfl (lv_at hl 1 rfl) ?_
    refine l_M5 C h (four_in hh1) d_M_waits_12 ?_
    refine lv_if_eq (tgt := 20) hx hb d_M_waits_13 (by decide) (fun hh2 => ?_) (fun hh2 => ?_)
    · skip
      refine lv_iconst (v := 0) hx hb d_M_waits_20 (by decide) ?_
      exact z_retzE C h hr hk (by first | exact Or.inl rfl | exact Or.inr rfl) (by first | rfl | (simp only [r_M_waits, eq_false hh1, eq_true hh2, ↓reduceIte]; done) | (simp [r_M_waits, eq_false hh1, eq_true hh2]; done)) (by first | rfl | (simp only [r_M_waits, eq_false hh1, eq_true hh2, ↓reduceIte]; done) | (simp [r_M_waits, eq_false hh1, eq_true hh2]; done)) (by first | rfl | (simp only [r_M_waits, eq_false hh1, eq_true hh2, ↓reduceIte]; done) | (simp [r_M_waits, eq_false hh1, eq_true hh2]; done)) d_M_waits_21
    · skip
      refine lv_iconst (v := 1) hx hb d_M_waits_16 (by decide) ?_
      refine lv_goto (tgt := 21) hx hb d_M_waits_17 (by decide) ?_
      exact z_retzE C h hr hk (by first | exact Or.inl rfl | exact Or.inr rfl) (by first | rfl | (simp only [r_M_waits, eq_false hh1, eq_false hh2, ↓reduceIte]; done) | (simp [r_M_waits, eq_false hh1, eq_false hh2]; done)) (by first | rfl | (simp only [r_M_waits, eq_false hh1, eq_false hh2, ↓reduceIte]; done) | (simp [r_M_waits, eq_false hh1, eq_false hh2]; done)) (by first | rfl | (simp only [r_M_waits, eq_false hh1, eq_false hh2, ↓reduceIte]; done) | (simp [r_M_waits, eq_false hh1, eq_false hh2]; done)) d_M_waits_21
theorem hd_M_done : y_M_done.cls ≠ "java/lang/invoke/MethodHandle" ∧ y_M_done.cls ≠ "java/lang/invoke/VarHandle" ∧ (parseMethodDescriptor y_M_done.desc).map (fun d => d.parameters.length) = some 1 := by decide +kernel
def r_M_done (X : zXS) (M : zMS) (a : Int32) : Int32 := (if (m_four a) = 0 then (-1) else (M 9 (Int32.toNatClampNeg a)))
set_option maxHeartbeats 1000000 in
set_option maxRecDepth 100000 in
theorem k_M_done (l : Launch) (dC : Nat → ClassId) (dI : Nat → Nat → Nat) (k : Nat → ClassId) (q : Nat → Nat) (X : zXS) (M : zMS) (a : Int32)   : zMet l dC dI k q y_M_done c_M_done 2 (some .int) 1 20 [.ref (q 37), .int a] (some (.int (r_M_done X M a))) X M X M := by
  refine zMet.of (by decide) (Nat.le_of_ble_eq_true rfl) ?_
  intro p e s m args below meth c ls C hr hk hl h
  have hx := C.1
  have hb := C.2.1
  have hl : lv_has ls 2 [(0, .ref (q 37)), (1, .int a)] := hl
  refine lv_iload_n hx hb d_M_done_0 rfl (lv_at hl 1 rfl) ?_
  refine z_callS C h (k_M_isFour l dC dI k q X M a) co_M_isFour ml_M_139 sc_M_isFour in_M hd_M_isFour ⟨by decide, by decide⟩ ⟨Nat.zero_le _, Nat.zero_le _⟩ hl.1 (Nat.le_of_ble_eq_true rfl) d_M_done_1 rfl (fun H locs h => ?_)
  refine W.eq (g2 := F0 m 4 ls [.int (m_four a)]) rfl ?_
  have h : zH dC dI k q X M (zA q) s.heap H locs := h
  refine lv_if_eq (tgt := 16) hx hb d_M_done_4 (by decide) (fun hh1 => ?_) (fun hh1 => ?_)
  · skip
    refine lv_iconst (v := -1) hx hb d_M_done_16 (by decide) ?_
    exact z_retE C h hr hk (by first | rfl | (simp only [r_M_done, eq_true hh1, ↓reduceIte]; done) | (simp [r_M_done, eq_true hh1]; done)) (by first | rfl | (simp only [r_M_done, eq_true hh1, ↓reduceIte]; done) | (simp [r_M_done, eq_true hh1]; done)) (by first | rfl | (simp only [r_M_done, eq_true hh1, ↓reduceIte]; done) | (simp [r_M_done, eq_true hh1]; done)) d_M_done_17
  · skip
    refine lv_aload_n hx hb d_M_done_7 rfl (lv_at hl 0 rfl) ?_
    refine g_M_38 C h d_M_done_8 ?_
    refine lv_iload_n hx hb d_M_done_11 rfl (lv_at hl 1 rfl) ?_
    refine l_M9 C h (four_in hh1) d_M_done_12 ?_
    refine lv_goto (tgt := 17) hx hb d_M_done_13 (by decide) ?_
    exact z_retE C h hr hk (by first | rfl | (simp only [r_M_done, eq_false hh1, ↓reduceIte]; done) | (simp [r_M_done, eq_false hh1]; done)) (by first | rfl | (simp only [r_M_done, eq_false hh1, ↓reduceIte]; done) | (simp [r_M_done, eq_false hh1]; done)) (by first | rfl | (simp only [r_M_done, eq_false hh1, ↓reduceIte]; done) | (simp [r_M_done, eq_false hh1]; done)) d_M_done_17
theorem hd_M_result : y_M_result.cls ≠ "java/lang/invoke/MethodHandle" ∧ y_M_result.cls ≠ "java/lang/invoke/VarHandle" ∧ (parseMethodDescriptor y_M_result.desc).map (fun d => d.parameters.length) = some 1 := by decide +kernel
def r_M_result (X : zXS) (M : zMS) (a : Int32) : Int32 := (if (m_four a) = 0 then 0 else (M 10 (Int32.toNatClampNeg a)))
set_option maxHeartbeats 1000000 in
set_option maxRecDepth 100000 in
theorem k_M_result (l : Launch) (dC : Nat → ClassId) (dI : Nat → Nat → Nat) (k : Nat → ClassId) (q : Nat → Nat) (X : zXS) (M : zMS) (a : Int32)   : zMet l dC dI k q y_M_result c_M_result 2 (some .int) 1 20 [.ref (q 37), .int a] (some (.int (r_M_result X M a))) X M X M := by
  refine zMet.of (by decide) (Nat.le_of_ble_eq_true rfl) ?_
  intro p e s m args below meth c ls C hr hk hl h
  have hx := C.1
  have hb := C.2.1
  have hl : lv_has ls 2 [(0, .ref (q 37)), (1, .int a)] := hl
  refine lv_iload_n hx hb d_M_result_0 rfl (lv_at hl 1 rfl) ?_
  refine z_callS C h (k_M_isFour l dC dI k q X M a) co_M_isFour ml_M_139 sc_M_isFour in_M hd_M_isFour ⟨by decide, by decide⟩ ⟨Nat.zero_le _, Nat.zero_le _⟩ hl.1 (Nat.le_of_ble_eq_true rfl) d_M_result_1 rfl (fun H locs h => ?_)
  refine W.eq (g2 := F0 m 4 ls [.int (m_four a)]) rfl ?_
  have h : zH dC dI k q X M (zA q) s.heap H locs := h
  refine lv_if_eq (tgt := 16) hx hb d_M_result_4 (by decide) (fun hh1 => ?_) (fun hh1 => ?_)
  · skip
    refine lv_iconst (v := 0) hx hb d_M_result_16 (by decide) ?_
    exact z_retE C h hr hk (by first | rfl | (simp only [r_M_result, eq_true hh1, ↓reduceIte]; done) | (simp [r_M_result, eq_true hh1]; done)) (by first | rfl | (simp only [r_M_result, eq_true hh1, ↓reduceIte]; done) | (simp [r_M_result, eq_true hh1]; done)) (by first | rfl | (simp only [r_M_result, eq_true hh1, ↓reduceIte]; done) | (simp [r_M_result, eq_true hh1]; done)) d_M_result_17
  · skip
    refine lv_aload_n hx hb d_M_result_7 rfl (lv_at hl 0 rfl) ?_
    refine g_M_41 C h d_M_result_8 ?_
    refine lv_iload_n hx hb d_M_result_11 rfl (lv_at hl 1 rfl) ?_
    refine l_M10 C h (four_in hh1) d_M_result_12 ?_
    refine lv_goto (tgt := 17) hx hb d_M_result_13 (by decide) ?_
    exact z_retE C h hr hk (by first | rfl | (simp only [r_M_result, eq_false hh1, ↓reduceIte]; done) | (simp [r_M_result, eq_false hh1]; done)) (by first | rfl | (simp only [r_M_result, eq_false hh1, ↓reduceIte]; done) | (simp [r_M_result, eq_false hh1]; done)) (by first | rfl | (simp only [r_M_result, eq_false hh1, ↓reduceIte]; done) | (simp [r_M_result, eq_false hh1]; done)) d_M_result_17
theorem hd_M_tally : y_M_tally.cls ≠ "java/lang/invoke/MethodHandle" ∧ y_M_tally.cls ≠ "java/lang/invoke/VarHandle" ∧ (parseMethodDescriptor y_M_tally.desc).map (fun d => d.parameters.length) = some 2 := by decide +kernel
def r_M_tally (X : zXS) (M : zMS) (co : Int32) (a : Int32) : Int32 := (if (m_four co) = 0 then (-1) else (if (m_four a) = 0 then (-1) else (M 4 (Int32.toNatClampNeg ((4 * co) + a)))))
set_option maxHeartbeats 1000000 in
set_option maxRecDepth 100000 in
theorem k_M_tally (l : Launch) (dC : Nat → ClassId) (dI : Nat → Nat → Nat) (k : Nat → ClassId) (q : Nat → Nat) (X : zXS) (M : zMS) (co : Int32) (a : Int32)   : zMet l dC dI k q y_M_tally c_M_tally 3 (some .int) 1 20 [.ref (q 37), .int co, .int a] (some (.int (r_M_tally X M co a))) X M X M := by
  refine zMet.of (by decide) (Nat.le_of_ble_eq_true rfl) ?_
  intro p e s m args below meth c ls C hr hk hl h
  have hx := C.1
  have hb := C.2.1
  have hl : lv_has ls 3 [(0, .ref (q 37)), (1, .int co), (2, .int a)] := hl
  refine lv_iload_n hx hb d_M_tally_0 rfl (lv_at hl 1 rfl) ?_
  refine z_callS C h (k_M_isFour l dC dI k q X M co) co_M_isFour ml_M_139 sc_M_isFour in_M hd_M_isFour ⟨by decide, by decide⟩ ⟨Nat.zero_le _, Nat.zero_le _⟩ hl.1 (Nat.le_of_ble_eq_true rfl) d_M_tally_1 rfl (fun H locs h => ?_)
  refine W.eq (g2 := F0 m 4 ls [.int (m_four co)]) rfl ?_
  have h : zH dC dI k q X M (zA q) s.heap H locs := h
  refine lv_if_eq (tgt := 27) hx hb d_M_tally_4 (by decide) (fun hh1 => ?_) (fun hh1 => ?_)
  · skip
    refine lv_iconst (v := -1) hx hb d_M_tally_27 (by decide) ?_
    exact z_retE C h hr hk (by first | rfl | (simp only [r_M_tally, eq_true hh1, ↓reduceIte]; done) | (simp [r_M_tally, eq_true hh1]; done)) (by first | rfl | (simp only [r_M_tally, eq_true hh1, ↓reduceIte]; done) | (simp [r_M_tally, eq_true hh1]; done)) (by first | rfl | (simp only [r_M_tally, eq_true hh1, ↓reduceIte]; done) | (simp [r_M_tally, eq_true hh1]; done)) d_M_tally_28
  · skip
    refine lv_iload_n hx hb d_M_tally_7 rfl (lv_at hl 2 rfl) ?_
    refine z_callS C h (k_M_isFour l dC dI k q X M a) co_M_isFour ml_M_139 sc_M_isFour in_M hd_M_isFour ⟨by decide, by decide⟩ ⟨Nat.zero_le _, Nat.zero_le _⟩ hl.1 (Nat.le_of_ble_eq_true rfl) d_M_tally_8 rfl (fun H locs h => ?_)
    refine W.eq (g2 := F0 m 11 ls [.int (m_four a)]) rfl ?_
    have h : zH dC dI k q X M (zA q) s.heap H locs := h
    refine lv_if_eq (tgt := 27) hx hb d_M_tally_11 (by decide) (fun hh2 => ?_) (fun hh2 => ?_)
    · skip
      refine lv_iconst (v := -1) hx hb d_M_tally_27 (by decide) ?_
      exact z_retE C h hr hk (by first | rfl | (simp only [r_M_tally, eq_false hh1, eq_true hh2, ↓reduceIte]; done) | (simp [r_M_tally, eq_false hh1, eq_true hh2]; done)) (by first | rfl | (simp only [r_M_tally, eq_false hh1, eq_true hh2, ↓reduceIte]; done) | (simp [r_M_tally, eq_false hh1, eq_true hh2]; done)) (by first | rfl | (simp only [r_M_tally, eq_false hh1, eq_true hh2, ↓reduceIte]; done) | (simp [r_M_tally, eq_false hh1, eq_true hh2]; done)) d_M_tally_28
    · skip
      refine lv_aload_n hx hb d_M_tally_14 rfl (lv_at hl 0 rfl) ?_
      refine g_M_22 C h d_M_tally_15 ?_
      refine lv_iconst (v := 4) hx hb d_M_tally_18 (by decide) ?_
      refine lv_iload_n hx hb d_M_tally_19 rfl (lv_at hl 1 rfl) ?_
      refine lv_imul hx hb d_M_tally_20 ?_
      refine lv_iload_n hx hb d_M_tally_21 rfl (lv_at hl 2 rfl) ?_
      refine lv_iadd hx hb d_M_tally_22 ?_
      refine l_M4 C h (vp4 (four_in hh1) (four_in hh2)) d_M_tally_23 ?_
      refine lv_goto (tgt := 28) hx hb d_M_tally_24 (by decide) ?_
      exact z_retE C h hr hk (by first | rfl | (simp only [r_M_tally, eq_false hh1, eq_false hh2, ↓reduceIte]; done) | (simp [r_M_tally, eq_false hh1, eq_false hh2]; done)) (by first | rfl | (simp only [r_M_tally, eq_false hh1, eq_false hh2, ↓reduceIte]; done) | (simp [r_M_tally, eq_false hh1, eq_false hh2]; done)) (by first | rfl | (simp only [r_M_tally, eq_false hh1, eq_false hh2, ↓reduceIte]; done) | (simp [r_M_tally, eq_false hh1, eq_false hh2]; done)) d_M_tally_28
end
section
theorem m_stp_15 (M : zMS) (i : Nat) : m_stp M i 15 = M 15 := rfl
theorem m_shift_15 : ∀ (c i : Nat) (M : zMS), m_shift c i M 15 = M 15
  | 0, _, _ => rfl
  | c + 1, i, M => by rw [m_shift, m_shift_15 c, m_stp_15]
theorem m_strike_15 {M : zMS} {kk n : Nat} (h : M 15 0 = nI (n + 1)) : m_strike M kk n 15 0 = nI n := by
  unfold m_strike
  rw [m_shift_15]
  show M 15 0 - 1 = nI n
  rw [h]; exact nI_pred n
theorem five_four {x : Int32} (h : vp_in x 5) (h4 : ¬ 4 ≤ x) : vp_in x 4 := by
  rw [vp_in_iff] at h ⊢
  rw [Int32.le_iff_toInt_le] at h4
  have e4 : (4 : Int32).toInt = 4 := rfl
  omega
theorem five_ne {x : Int32} (h : vp_in x 5) (h4 : ¬ x = 4) : vp_in x 4 := by
  rw [vp_in_iff] at h ⊢
  rw [← Int32.toInt_inj] at h4
  have e4 : (4 : Int32).toInt = 4 := rfl
  omega
theorem rows_cl {x : Int32} {n : Nat} (h : x = nI n) (hn : n < 2 ^ 31) : x.toNatClampNeg = n := by rw [h]; exact nI_clamp hn
theorem k_nat {x : Int32} (h : ¬ x < 0) : x = nI x.toNatClampNeg := by
  obtain ⟨j, hj, rfl⟩ := nI_of h
  rw [nI_clamp hj]
theorem k_lt {x y : Int32} {n : Nat} (h0 : ¬ x < 0) (h : x < y) (hy : y = nI n) (hn : n < 2 ^ 31) : x.toNatClampNeg < n := by
  obtain ⟨j, hj, rfl⟩ := nI_of h0
  rw [hy] at h
  rw [nI_clamp hj]
  exact (nI_ltI hj hn).mp h
theorem hd_M_stalls : y_M_stalls.cls ≠ "java/lang/invoke/MethodHandle" ∧ y_M_stalls.cls ≠ "java/lang/invoke/VarHandle" ∧ (parseMethodDescriptor y_M_stalls.desc).map (fun d => d.parameters.length) = some 1 := by decide +kernel
def r_M_stalls (X : zXS) (M : zMS) (kk : Nat) : Int32 := (if (M 19 (Int32.toNatClampNeg (nI kk))) = 4 then (if 2 ≤ (M 16 (Int32.toNatClampNeg (nI kk))) then 0 else (if (M 11 (Int32.toNatClampNeg (M 17 (Int32.toNatClampNeg (nI kk))))) = 3 then 1 else 0)) else (if (M 16 (Int32.toNatClampNeg (nI kk))) < 5 then 0 else (if 7 < (M 16 (Int32.toNatClampNeg (nI kk))) then 0 else (if (m_bec (M 16 (Int32.toNatClampNeg (nI kk))) (M 0 (Int32.toNatClampNeg ((4 * (M 19 (Int32.toNatClampNeg (nI kk)))) + (M 17 (Int32.toNatClampNeg (nI kk))))))) = 15 then 1 else 0))))
set_option maxHeartbeats 1000000 in
set_option maxRecDepth 100000 in
theorem k_M_stalls (l : Launch) (dC : Nat → ClassId) (dI : Nat → Nat → Nat) (k : Nat → ClassId) (q : Nat → Nat) (X : zXS) (M : zMS) (kk : Nat)  (hk0 : vp_in (nI kk) 200) (hA : vp_in (M 17 (Int32.toNatClampNeg (nI kk))) 4) (hT : vp_in (M 19 (Int32.toNatClampNeg (nI kk))) 5) (hR : vp_in (M 20 (Int32.toNatClampNeg (nI kk))) 4) : zMet l dC dI k q y_M_stalls c_M_stalls 2 (some .boolean) 2 43 [.ref (q 37), .int (nI kk)] (some (.int (r_M_stalls X M kk))) X M X M := by
  refine zMet.of (by decide) (Nat.le_of_ble_eq_true rfl) ?_
  intro p e s m args below meth c ls C hr hk hl h
  have hx := C.1
  have hb := C.2.1
  have hl : lv_has ls 2 [(0, .ref (q 37)), (1, .int (nI kk))] := hl
  refine lv_aload_n hx hb d_M_stalls_0 rfl (lv_at hl 0 rfl) ?_
  refine g_M_65 C h d_M_stalls_1 ?_
  refine lv_iload_n hx hb d_M_stalls_4 rfl (lv_at hl 1 rfl) ?_
  refine l_M19 C h hk0 d_M_stalls_5 ?_
  refine lv_iconst (v := 4) hx hb d_M_stalls_6 (by decide) ?_
  refine lv_icmp_ne (tgt := 41) hx hb d_M_stalls_7 (by decide) (fun hh1 => ?_) (fun hh1 => ?_)
  · skip
    refine lv_aload_n hx hb d_M_stalls_41 rfl (lv_at hl 0 rfl) ?_
    refine g_M_56 C h d_M_stalls_42 ?_
    refine lv_iload_n hx hb d_M_stalls_45 rfl (lv_at hl 1 rfl) ?_
    refine l_M16 C h hk0 d_M_stalls_46 ?_
    refine lv_iconst (v := 5) hx hb d_M_stalls_47 (by decide) ?_
    refine lv_icmp_lt (tgt := 100) hx hb d_M_stalls_48 (by decide) (fun hh2 => ?_) (fun hh2 => ?_)
    · skip
      refine lv_iconst (v := 0) hx hb d_M_stalls_100 (by decide) ?_
      exact z_retzE C h hr hk (by first | exact Or.inl rfl | exact Or.inr rfl) (by first | rfl | (simp only [r_M_stalls, eq_false hh1, eq_true hh2, ↓reduceIte]; done) | (simp [r_M_stalls, eq_false hh1, eq_true hh2]; done)) (by first | rfl | (simp only [r_M_stalls, eq_false hh1, eq_true hh2, ↓reduceIte]; done) | (simp [r_M_stalls, eq_false hh1, eq_true hh2]; done)) (by first | rfl | (simp only [r_M_stalls, eq_false hh1, eq_true hh2, ↓reduceIte]; done) | (simp [r_M_stalls, eq_false hh1, eq_true hh2]; done)) d_M_stalls_101
    · skip
      refine lv_aload_n hx hb d_M_stalls_51 rfl (lv_at hl 0 rfl) ?_
      refine g_M_56 C h d_M_stalls_52 ?_
      refine lv_iload_n hx hb d_M_stalls_55 rfl (lv_at hl 1 rfl) ?_
      refine l_M16 C h hk0 d_M_stalls_56 ?_
      refine lv_bipush (v := 7) hx hb d_M_stalls_57 (by decide) ?_
      refine lv_icmp_gt (tgt := 100) hx hb d_M_stalls_59 (by decide) (fun hh3 => ?_) (fun hh3 => ?_)
      · skip
        refine lv_iconst (v := 0) hx hb d_M_stalls_100 (by decide) ?_
        exact z_retzE C h hr hk (by first | exact Or.inl rfl | exact Or.inr rfl) (by first | rfl | (simp only [r_M_stalls, eq_false hh1, eq_false hh2, eq_true hh3, ↓reduceIte]; done) | (simp [r_M_stalls, eq_false hh1, eq_false hh2, eq_true hh3]; done)) (by first | rfl | (simp only [r_M_stalls, eq_false hh1, eq_false hh2, eq_true hh3, ↓reduceIte]; done) | (simp [r_M_stalls, eq_false hh1, eq_false hh2, eq_true hh3]; done)) (by first | rfl | (simp only [r_M_stalls, eq_false hh1, eq_false hh2, eq_true hh3, ↓reduceIte]; done) | (simp [r_M_stalls, eq_false hh1, eq_false hh2, eq_true hh3]; done)) d_M_stalls_101
      · skip
        refine lv_aload_n hx hb d_M_stalls_62 rfl (lv_at hl 0 rfl) ?_
        refine g_M_56 C h d_M_stalls_63 ?_
        refine lv_iload_n hx hb d_M_stalls_66 rfl (lv_at hl 1 rfl) ?_
        refine l_M16 C h hk0 d_M_stalls_67 ?_
        refine lv_aload_n hx hb d_M_stalls_68 rfl (lv_at hl 0 rfl) ?_
        refine g_M_7 C h d_M_stalls_69 ?_
        refine lv_iconst (v := 4) hx hb d_M_stalls_72 (by decide) ?_
        refine lv_aload_n hx hb d_M_stalls_73 rfl (lv_at hl 0 rfl) ?_
        refine g_M_65 C h d_M_stalls_74 ?_
        refine lv_iload_n hx hb d_M_stalls_77 rfl (lv_at hl 1 rfl) ?_
        refine l_M19 C h hk0 d_M_stalls_78 ?_
        refine lv_imul hx hb d_M_stalls_79 ?_
        refine lv_aload_n hx hb d_M_stalls_80 rfl (lv_at hl 0 rfl) ?_
        refine g_M_59 C h d_M_stalls_81 ?_
        refine lv_iload_n hx hb d_M_stalls_84 rfl (lv_at hl 1 rfl) ?_
        refine l_M17 C h hk0 d_M_stalls_85 ?_
        refine lv_iadd hx hb d_M_stalls_86 ?_
        refine l_M0 C h (vp4 (five_ne hT hh1) hA) d_M_stalls_87 ?_
        refine z_callS C h (k_M_becomes l dC dI k q X M (M 16 (Int32.toNatClampNeg (nI kk))) (M 0 (Int32.toNatClampNeg ((4 * (M 19 (Int32.toNatClampNeg (nI kk)))) + (M 17 (Int32.toNatClampNeg (nI kk))))))) co_M_becomes ml_M_101 sc_M_becomes in_M hd_M_becomes ⟨by decide, by decide⟩ ⟨Nat.zero_le _, Nat.zero_le _⟩ hl.1 (Nat.le_of_ble_eq_true rfl) d_M_stalls_88 rfl (fun H locs h => ?_)
        refine W.eq (g2 := F0 m 91 ls [.int (m_bec (M 16 (Int32.toNatClampNeg (nI kk))) (M 0 (Int32.toNatClampNeg ((4 * (M 19 (Int32.toNatClampNeg (nI kk)))) + (M 17 (Int32.toNatClampNeg (nI kk)))))))]) rfl ?_
        have h : zH dC dI k q X M (zA q) s.heap H locs := h
        refine lv_bipush (v := 15) hx hb d_M_stalls_91 (by decide) ?_
        refine lv_icmp_ne (tgt := 100) hx hb d_M_stalls_93 (by decide) (fun hh4 => ?_) (fun hh4 => ?_)
        · skip
          refine lv_iconst (v := 0) hx hb d_M_stalls_100 (by decide) ?_
          exact z_retzE C h hr hk (by first | exact Or.inl rfl | exact Or.inr rfl) (by first | rfl | (simp only [r_M_stalls, eq_false hh1, eq_false hh2, eq_false hh3, eq_false hh4, ↓reduceIte]; done) | (simp [r_M_stalls, eq_false hh1, eq_false hh2, eq_false hh3, eq_false hh4]; done)) (by first | rfl | (simp only [r_M_stalls, eq_false hh1, eq_false hh2, eq_false hh3, eq_false hh4, ↓reduceIte]; done) | (simp [r_M_stalls, eq_false hh1, eq_false hh2, eq_false hh3, eq_false hh4]; done)) (by first | rfl | (simp only [r_M_stalls, eq_false hh1, eq_false hh2, eq_false hh3, eq_false hh4, ↓reduceIte]; done) | (simp [r_M_stalls, eq_false hh1, eq_false hh2, eq_false hh3, eq_false hh4]; done)) d_M_stalls_101
        · skip
          refine lv_iconst (v := 1) hx hb d_M_stalls_96 (by decide) ?_
          refine lv_goto (tgt := 101) hx hb d_M_stalls_97 (by decide) ?_
          exact z_retzE C h hr hk (by first | exact Or.inl rfl | exact Or.inr rfl) (by first | rfl | (simp only [r_M_stalls, eq_false hh1, eq_false hh2, eq_false hh3, eq_true hh4, ↓reduceIte]; done) | (simp [r_M_stalls, eq_false hh1, eq_false hh2, eq_false hh3, eq_true hh4]; done)) (by first | rfl | (simp only [r_M_stalls, eq_false hh1, eq_false hh2, eq_false hh3, eq_true hh4, ↓reduceIte]; done) | (simp [r_M_stalls, eq_false hh1, eq_false hh2, eq_false hh3, eq_true hh4]; done)) (by first | rfl | (simp only [r_M_stalls, eq_false hh1, eq_false hh2, eq_false hh3, eq_true hh4, ↓reduceIte]; done) | (simp [r_M_stalls, eq_false hh1, eq_false hh2, eq_false hh3, eq_true hh4]; done)) d_M_stalls_101
  · skip
    refine lv_aload_n hx hb d_M_stalls_10 rfl (lv_at hl 0 rfl) ?_
    refine g_M_56 C h d_M_stalls_11 ?_
    refine lv_iload_n hx hb d_M_stalls_14 rfl (lv_at hl 1 rfl) ?_
    refine l_M16 C h hk0 d_M_stalls_15 ?_
    refine lv_iconst (v := 2) hx hb d_M_stalls_16 (by decide) ?_
    refine lv_icmp_ge (tgt := 39) hx hb d_M_stalls_17 (by decide) (fun hh5 => ?_) (fun hh5 => ?_)
    · skip
      refine lv_iconst (v := 0) hx hb d_M_stalls_39 (by decide) ?_
      exact z_retzE C h hr hk (by first | exact Or.inl rfl | exact Or.inr rfl) (by first | rfl | (simp only [r_M_stalls, eq_true hh1, eq_true hh5, ↓reduceIte]; done) | (simp [r_M_stalls, eq_true hh1, eq_true hh5]; done)) (by first | rfl | (simp only [r_M_stalls, eq_true hh1, eq_true hh5, ↓reduceIte]; done) | (simp [r_M_stalls, eq_true hh1, eq_true hh5]; done)) (by first | rfl | (simp only [r_M_stalls, eq_true hh1, eq_true hh5, ↓reduceIte]; done) | (simp [r_M_stalls, eq_true hh1, eq_true hh5]; done)) d_M_stalls_40
    · skip
      refine lv_aload_n hx hb d_M_stalls_20 rfl (lv_at hl 0 rfl) ?_
      refine g_M_44 C h d_M_stalls_21 ?_
      refine lv_aload_n hx hb d_M_stalls_24 rfl (lv_at hl 0 rfl) ?_
      refine g_M_59 C h d_M_stalls_25 ?_
      refine lv_iload_n hx hb d_M_stalls_28 rfl (lv_at hl 1 rfl) ?_
      refine l_M17 C h hk0 d_M_stalls_29 ?_
      refine l_M11 C h hA d_M_stalls_30 ?_
      refine lv_iconst (v := 3) hx hb d_M_stalls_31 (by decide) ?_
      refine lv_icmp_ne (tgt := 39) hx hb d_M_stalls_32 (by decide) (fun hh6 => ?_) (fun hh6 => ?_)
      · skip
        refine lv_iconst (v := 0) hx hb d_M_stalls_39 (by decide) ?_
        exact z_retzE C h hr hk (by first | exact Or.inl rfl | exact Or.inr rfl) (by first | rfl | (simp only [r_M_stalls, eq_true hh1, eq_false hh5, eq_false hh6, ↓reduceIte]; done) | (simp [r_M_stalls, eq_true hh1, eq_false hh5, eq_false hh6]; done)) (by first | rfl | (simp only [r_M_stalls, eq_true hh1, eq_false hh5, eq_false hh6, ↓reduceIte]; done) | (simp [r_M_stalls, eq_true hh1, eq_false hh5, eq_false hh6]; done)) (by first | rfl | (simp only [r_M_stalls, eq_true hh1, eq_false hh5, eq_false hh6, ↓reduceIte]; done) | (simp [r_M_stalls, eq_true hh1, eq_false hh5, eq_false hh6]; done)) d_M_stalls_40
      · skip
        refine lv_iconst (v := 1) hx hb d_M_stalls_35 (by decide) ?_
        refine lv_goto (tgt := 40) hx hb d_M_stalls_36 (by decide) ?_
        exact z_retzE C h hr hk (by first | exact Or.inl rfl | exact Or.inr rfl) (by first | rfl | (simp only [r_M_stalls, eq_true hh1, eq_false hh5, eq_true hh6, ↓reduceIte]; done) | (simp [r_M_stalls, eq_true hh1, eq_false hh5, eq_true hh6]; done)) (by first | rfl | (simp only [r_M_stalls, eq_true hh1, eq_false hh5, eq_true hh6, ↓reduceIte]; done) | (simp [r_M_stalls, eq_true hh1, eq_false hh5, eq_true hh6]; done)) (by first | rfl | (simp only [r_M_stalls, eq_true hh1, eq_false hh5, eq_true hh6, ↓reduceIte]; done) | (simp [r_M_stalls, eq_true hh1, eq_false hh5, eq_true hh6]; done)) d_M_stalls_40
theorem hd_M_move : y_M_move.cls ≠ "java/lang/invoke/MethodHandle" ∧ y_M_move.cls ≠ "java/lang/invoke/VarHandle" ∧ (parseMethodDescriptor y_M_move.desc).map (fun d => d.parameters.length) = some 1 := by decide +kernel
def r_M_move (X : zXS) (M : zMS) (kk : Nat) : Int32 := (if (m_kept M kk) = 0 then (if (r_M_stalls X M kk) = 0 then 2 else 1) else 0)
def m_M_move (X : zXS) (M : zMS) (kk : Nat) : zMS := (if (m_kept M kk) = 0 then (if (r_M_stalls X M kk) = 0 then (if 4 ≤ (M 19 (Int32.toNatClampNeg (nI kk))) then (if (M 16 (Int32.toNatClampNeg (nI kk))) = 0 then (m_M_toRead X (m_strike M kk ((Int32.toNatClampNeg (M 15 0)) - 1)) (M 17 (Int32.toNatClampNeg (nI kk))) (M 20 (Int32.toNatClampNeg (nI kk)))) else (if (M 16 (Int32.toNatClampNeg (nI kk))) = 1 then (m_M_toWrite X (m_strike M kk ((Int32.toNatClampNeg (M 15 0)) - 1)) (M 17 (Int32.toNatClampNeg (nI kk))) (M 20 (Int32.toNatClampNeg (nI kk)))) else (if 5 ≤ (M 16 (Int32.toNatClampNeg (nI kk))) then (if ((m_strike M kk ((Int32.toNatClampNeg (M 15 0)) - 1)) 13 (Int32.toNatClampNeg (M 17 (Int32.toNatClampNeg (nI kk))))) = 0 then (u2 (u2 (m_strike M kk ((Int32.toNatClampNeg (M 15 0)) - 1)) 14 (Int32.toNatClampNeg (M 17 (Int32.toNatClampNeg (nI kk)))) (M 22 (Int32.toNatClampNeg (nI kk)))) 11 (Int32.toNatClampNeg (M 17 (Int32.toNatClampNeg (nI kk)))) 0) else (u2 (u2 (m_strike M kk ((Int32.toNatClampNeg (M 15 0)) - 1)) 14 (Int32.toNatClampNeg (M 17 (Int32.toNatClampNeg (nI kk)))) (M 22 (Int32.toNatClampNeg (nI kk)))) 11 (Int32.toNatClampNeg (M 17 (Int32.toNatClampNeg (nI kk)))) 1)) else (m_M_toLeave X (m_strike M kk ((Int32.toNatClampNeg (M 15 0)) - 1)) (M 16 (Int32.toNatClampNeg (nI kk))) (M 17 (Int32.toNatClampNeg (nI kk))) (M 20 (Int32.toNatClampNeg (nI kk))) (M 22 (Int32.toNatClampNeg (nI kk))))))) else (m_M_toCore X (m_strike M kk ((Int32.toNatClampNeg (M 15 0)) - 1)) (M 16 (Int32.toNatClampNeg (nI kk))) (M 17 (Int32.toNatClampNeg (nI kk))) (M 19 (Int32.toNatClampNeg (nI kk))) (M 20 (Int32.toNatClampNeg (nI kk))) (M 21 (Int32.toNatClampNeg (nI kk))) (M 22 (Int32.toNatClampNeg (nI kk))))) else M) else M)
set_option maxHeartbeats 1000000 in
set_option maxRecDepth 100000 in
theorem k_M_move (l : Launch) (dC : Nat → ClassId) (dI : Nat → Nat → Nat) (k : Nat → ClassId) (q : Nat → Nat) (X : zXS) (M : zMS) (kk : Nat)  (n : Nat) (hn : M 15 0 = nI n) (hb9 : n + 8 < 200) (hkk : kk < n) (hA : vp_in (M 17 (Int32.toNatClampNeg (nI kk))) 4) (hT : vp_in (M 19 (Int32.toNatClampNeg (nI kk))) 5) (hR : vp_in (M 20 (Int32.toNatClampNeg (nI kk))) 4) : zMet l dC dI k q y_M_move c_M_move 8 (some .int) 3 83 [.ref (q 37), .int (nI kk)] (some (.int (r_M_move X M kk))) X M X (m_M_move X M kk) := by
  refine zMet.of (by decide) (Nat.le_of_ble_eq_true rfl) ?_
  intro p e s m args below meth c ls C hr hk hl h
  have hx := C.1
  have hb := C.2.1
  have hl : lv_has ls 8 [(0, .ref (q 37)), (1, .int (nI kk))] := hl
  have hk0 : vp_in (nI kk) 200 := vp_in_nI (by omega) (by omega)
  have hcl : (M 15 0).toNatClampNeg = n := rows_cl hn (by omega)
  have hs9 : M 15 0 = nI (((M 15 0).toNatClampNeg - 1) + 1) := by rw [hcl, hn]; congr 1; omega
  have hs8 : (m_strike M kk ((Int32.toNatClampNeg (M 15 0)) - 1)) 15 0 = nI ((M 15 0).toNatClampNeg - 1) := m_strike_15 hs9
  refine lv_aload_n hx hb d_M_move_0 rfl (lv_at hl 0 rfl) ?_
  refine lv_iload_n hx hb d_M_move_1 rfl (lv_at hl 1 rfl) ?_
  refine z_callV (i := 37) C h (k_M_keptBack l dC dI k q X M kk (by omega)) co_M_keptBack ml_M_105 im_M_keptBack se_M_keptBack in_M rfl rfl hd_M_keptBack ⟨by decide, by decide⟩ ⟨Nat.zero_le _, Nat.zero_le _⟩ hl.1 (Nat.le_of_ble_eq_true rfl) d_M_move_2 rfl (fun H locs h => ?_)
  refine W.eq (g2 := F0 m 5 ls [.int (m_kept M kk)]) rfl ?_
  have h : zH dC dI k q X M (zA q) s.heap H locs := h
  refine lv_if_eq (tgt := 10) hx hb d_M_move_5 (by decide) (fun hh1 => ?_) (fun hh1 => ?_)
  · skip
    refine lv_aload_n hx hb d_M_move_10 rfl (lv_at hl 0 rfl) ?_
    refine lv_iload_n hx hb d_M_move_11 rfl (lv_at hl 1 rfl) ?_
    refine z_callV (i := 37) C h (k_M_stalls l dC dI k q X M kk hk0 hA hT hR) co_M_stalls ml_M_108 im_M_stalls se_M_stalls in_M rfl rfl hd_M_stalls ⟨by decide, by decide⟩ ⟨Nat.zero_le _, Nat.zero_le _⟩ hl.1 (Nat.le_of_ble_eq_true rfl) d_M_move_12 rfl (fun H locs h => ?_)
    refine W.eq (g2 := F0 m 15 ls [.int (r_M_stalls X M kk)]) rfl ?_
    have h : zH dC dI k q X M (zA q) s.heap H locs := h
    refine lv_if_eq (tgt := 20) hx hb d_M_move_15 (by decide) (fun hh2 => ?_) (fun hh2 => ?_)
    · skip
      refine lv_aload_n hx hb d_M_move_20 rfl (lv_at hl 0 rfl) ?_
      refine g_M_56 C h d_M_move_21 ?_
      refine lv_iload_n hx hb d_M_move_24 rfl (lv_at hl 1 rfl) ?_
      refine l_M16 C h hk0 d_M_move_25 ?_
      refine lv_istore_n hx hb d_M_move_26 rfl hl (by decide) rfl (fun ls hl => ?_)
      have hl : lv_has ls 8 [(2, .int (M 16 (Int32.toNatClampNeg (nI kk)))), (0, .ref (q 37)), (1, .int (nI kk))] := hl
      refine lv_aload_n hx hb d_M_move_27 rfl (lv_at hl 1 rfl) ?_
      refine g_M_59 C h d_M_move_28 ?_
      refine lv_iload_n hx hb d_M_move_31 rfl (lv_at hl 2 rfl) ?_
      refine l_M17 C h hk0 d_M_move_32 ?_
      refine lv_istore_n hx hb d_M_move_33 rfl hl (by decide) rfl (fun ls hl => ?_)
      have hl : lv_has ls 8 [(3, .int (M 17 (Int32.toNatClampNeg (nI kk)))), (2, .int (M 16 (Int32.toNatClampNeg (nI kk)))), (0, .ref (q 37)), (1, .int (nI kk))] := hl
      refine lv_aload_n hx hb d_M_move_34 rfl (lv_at hl 2 rfl) ?_
      refine g_M_65 C h d_M_move_35 ?_
      refine lv_iload_n hx hb d_M_move_38 rfl (lv_at hl 3 rfl) ?_
      refine l_M19 C h hk0 d_M_move_39 ?_
      refine lv_istore hx hb d_M_move_40 hl (by decide) rfl (fun ls hl => ?_)
      have hl : lv_has ls 8 [(4, .int (M 19 (Int32.toNatClampNeg (nI kk)))), (3, .int (M 17 (Int32.toNatClampNeg (nI kk)))), (2, .int (M 16 (Int32.toNatClampNeg (nI kk)))), (0, .ref (q 37)), (1, .int (nI kk))] := hl
      refine lv_aload_n hx hb d_M_move_42 rfl (lv_at hl 3 rfl) ?_
      refine g_M_68 C h d_M_move_43 ?_
      refine lv_iload_n hx hb d_M_move_46 rfl (lv_at hl 4 rfl) ?_
      refine l_M20 C h hk0 d_M_move_47 ?_
      refine lv_istore hx hb d_M_move_48 hl (by decide) rfl (fun ls hl => ?_)
      have hl : lv_has ls 8 [(5, .int (M 20 (Int32.toNatClampNeg (nI kk)))), (4, .int (M 19 (Int32.toNatClampNeg (nI kk)))), (3, .int (M 17 (Int32.toNatClampNeg (nI kk)))), (2, .int (M 16 (Int32.toNatClampNeg (nI kk)))), (0, .ref (q 37)), (1, .int (nI kk))] := hl
      refine lv_aload_n hx hb d_M_move_50 rfl (lv_at hl 4 rfl) ?_
      refine g_M_71 C h d_M_move_51 ?_
      refine lv_iload_n hx hb d_M_move_54 rfl (lv_at hl 5 rfl) ?_
      refine l_M21 C h hk0 d_M_move_55 ?_
      refine lv_istore hx hb d_M_move_56 hl (by decide) rfl (fun ls hl => ?_)
      have hl : lv_has ls 8 [(6, .int (M 21 (Int32.toNatClampNeg (nI kk)))), (5, .int (M 20 (Int32.toNatClampNeg (nI kk)))), (4, .int (M 19 (Int32.toNatClampNeg (nI kk)))), (3, .int (M 17 (Int32.toNatClampNeg (nI kk)))), (2, .int (M 16 (Int32.toNatClampNeg (nI kk)))), (0, .ref (q 37)), (1, .int (nI kk))] := hl
      refine lv_aload_n hx hb d_M_move_58 rfl (lv_at hl 5 rfl) ?_
      refine g_M_74 C h d_M_move_59 ?_
      refine lv_iload_n hx hb d_M_move_62 rfl (lv_at hl 6 rfl) ?_
      refine l_M22 C h hk0 d_M_move_63 ?_
      refine lv_istore hx hb d_M_move_64 hl (by decide) rfl (fun ls hl => ?_)
      have hl : lv_has ls 8 [(7, .int (M 22 (Int32.toNatClampNeg (nI kk)))), (6, .int (M 21 (Int32.toNatClampNeg (nI kk)))), (5, .int (M 20 (Int32.toNatClampNeg (nI kk)))), (4, .int (M 19 (Int32.toNatClampNeg (nI kk)))), (3, .int (M 17 (Int32.toNatClampNeg (nI kk)))), (2, .int (M 16 (Int32.toNatClampNeg (nI kk)))), (0, .ref (q 37)), (1, .int (nI kk))] := hl
      refine lv_aload_n hx hb d_M_move_66 rfl (lv_at hl 6 rfl) ?_
      refine lv_iload_n hx hb d_M_move_67 rfl (lv_at hl 7 rfl) ?_
      refine z_callV (i := 37) C h (k_M_strike l dC dI k q X M kk ((Int32.toNatClampNeg (M 15 0)) - 1) (by omega) (by omega) hs9) co_M_strike ml_M_111 im_M_strike se_M_strike in_M rfl rfl hd_M_strike ⟨by decide, by decide⟩ ⟨Nat.zero_le _, Nat.zero_le _⟩ hl.1 (Nat.le_of_ble_eq_true rfl) d_M_move_68 rfl (fun H locs h => ?_)
      refine W.eq (g2 := F0 m 71 ls []) rfl ?_
      have h : zH dC dI k q X (m_strike M kk ((Int32.toNatClampNeg (M 15 0)) - 1)) (zA q) s.heap H locs := h
      refine lv_iload hx hb d_M_move_71 (lv_at hl 3 rfl) ?_
      refine lv_iconst (v := 4) hx hb d_M_move_73 (by decide) ?_
      refine lv_icmp_ge (tgt := 94) hx hb d_M_move_74 (by decide) (fun hh3 => ?_) (fun hh3 => ?_)
      · skip
        refine lv_iload_n hx hb d_M_move_94 rfl (lv_at hl 5 rfl) ?_
        refine lv_if_ne (tgt := 108) hx hb d_M_move_95 (by decide) (fun hh4 => ?_) (fun hh4 => ?_)
        · skip
          refine lv_iload_n hx hb d_M_move_108 rfl (lv_at hl 5 rfl) ?_
          refine lv_iconst (v := 1) hx hb d_M_move_109 (by decide) ?_
          refine lv_icmp_ne (tgt := 123) hx hb d_M_move_110 (by decide) (fun hh5 => ?_) (fun hh5 => ?_)
          · skip
            refine lv_iload_n hx hb d_M_move_123 rfl (lv_at hl 5 rfl) ?_
            refine lv_iconst (v := 5) hx hb d_M_move_124 (by decide) ?_
            refine lv_icmp_ge (tgt := 141) hx hb d_M_move_125 (by decide) (fun hh6 => ?_) (fun hh6 => ?_)
            · skip
              refine lv_aload_n hx hb d_M_move_141 rfl (lv_at hl 6 rfl) ?_
              refine g_M_53 C h d_M_move_142 ?_
              refine lv_iload_n hx hb d_M_move_145 rfl (lv_at hl 4 rfl) ?_
              refine lv_iload hx hb d_M_move_146 (lv_at hl 0 rfl) ?_
              refine s_M14 C h hA d_M_move_148 (fun H locs h => ?_)
              refine lv_aload_n hx hb d_M_move_149 rfl (lv_at hl 6 rfl) ?_
              refine g_M_44 C h d_M_move_150 ?_
              refine lv_iload_n hx hb d_M_move_153 rfl (lv_at hl 4 rfl) ?_
              refine lv_aload_n hx hb d_M_move_154 rfl (lv_at hl 6 rfl) ?_
              refine g_M_50 C h d_M_move_155 ?_
              refine lv_iload_n hx hb d_M_move_158 rfl (lv_at hl 4 rfl) ?_
              refine l_M13 C h hA d_M_move_159 ?_
              refine z_top (y := (m_strike M kk ((Int32.toNatClampNeg (M 15 0)) - 1)) 13 (Int32.toNatClampNeg (M 17 (Int32.toNatClampNeg (nI kk))))) rfl ?_
              refine lv_if_ne (tgt := 167) hx hb d_M_move_160 (by decide) (fun hh7 => ?_) (fun hh7 => ?_)
              · skip
                refine lv_iconst (v := 1) hx hb d_M_move_167 (by decide) ?_
                refine s_M11 C h hA d_M_move_168 (fun H locs h => ?_)
                refine lv_iconst (v := 2) hx hb d_M_move_169 (by decide) ?_
                exact z_retE C h hr hk (by first | rfl | (simp only [r_M_move, m_M_move, eq_true hh1, eq_true hh2, eq_true hh3, eq_false hh4, eq_false hh5, eq_true hh6, eq_false hh7, ↓reduceIte]; done) | (simp [r_M_move, m_M_move, eq_true hh1, eq_true hh2, eq_true hh3, eq_false hh4, eq_false hh5, eq_true hh6, eq_false hh7]; done)) (by first | rfl | (simp only [r_M_move, m_M_move, eq_true hh1, eq_true hh2, eq_true hh3, eq_false hh4, eq_false hh5, eq_true hh6, eq_false hh7, ↓reduceIte]; done) | (simp [r_M_move, m_M_move, eq_true hh1, eq_true hh2, eq_true hh3, eq_false hh4, eq_false hh5, eq_true hh6, eq_false hh7]; done)) (by first | rfl | (simp only [r_M_move, m_M_move, eq_true hh1, eq_true hh2, eq_true hh3, eq_false hh4, eq_false hh5, eq_true hh6, eq_false hh7, ↓reduceIte]; done) | (simp [r_M_move, m_M_move, eq_true hh1, eq_true hh2, eq_true hh3, eq_false hh4, eq_false hh5, eq_true hh6, eq_false hh7]; done)) d_M_move_170
              · skip
                refine lv_iconst (v := 0) hx hb d_M_move_163 (by decide) ?_
                refine lv_goto (tgt := 168) hx hb d_M_move_164 (by decide) ?_
                refine s_M11 C h hA d_M_move_168 (fun H locs h => ?_)
                refine lv_iconst (v := 2) hx hb d_M_move_169 (by decide) ?_
                exact z_retE C h hr hk (by first | rfl | (simp only [r_M_move, m_M_move, eq_true hh1, eq_true hh2, eq_true hh3, eq_false hh4, eq_false hh5, eq_true hh6, eq_true hh7, ↓reduceIte]; done) | (simp [r_M_move, m_M_move, eq_true hh1, eq_true hh2, eq_true hh3, eq_false hh4, eq_false hh5, eq_true hh6, eq_true hh7]; done)) (by first | rfl | (simp only [r_M_move, m_M_move, eq_true hh1, eq_true hh2, eq_true hh3, eq_false hh4, eq_false hh5, eq_true hh6, eq_true hh7, ↓reduceIte]; done) | (simp [r_M_move, m_M_move, eq_true hh1, eq_true hh2, eq_true hh3, eq_false hh4, eq_false hh5, eq_true hh6, eq_true hh7]; done)) (by first | rfl | (simp only [r_M_move, m_M_move, eq_true hh1, eq_true hh2, eq_true hh3, eq_false hh4, eq_false hh5, eq_true hh6, eq_true hh7, ↓reduceIte]; done) | (simp [r_M_move, m_M_move, eq_true hh1, eq_true hh2, eq_true hh3, eq_false hh4, eq_false hh5, eq_true hh6, eq_true hh7]; done)) d_M_move_170
            · skip
              refine lv_aload_n hx hb d_M_move_128 rfl (lv_at hl 6 rfl) ?_
              refine lv_iload_n hx hb d_M_move_129 rfl (lv_at hl 5 rfl) ?_
              refine lv_iload_n hx hb d_M_move_130 rfl (lv_at hl 4 rfl) ?_
              refine lv_iload hx hb d_M_move_131 (lv_at hl 2 rfl) ?_
              refine lv_iload hx hb d_M_move_133 (lv_at hl 0 rfl) ?_
              refine z_callV (i := 37) C h (k_M_toLeave l dC dI k q X (m_strike M kk ((Int32.toNatClampNeg (M 15 0)) - 1)) (M 16 (Int32.toNatClampNeg (nI kk))) (M 17 (Int32.toNatClampNeg (nI kk))) (M 20 (Int32.toNatClampNeg (nI kk))) (M 22 (Int32.toNatClampNeg (nI kk))) ((M 15 0).toNatClampNeg - 1) hs8 (by omega) hA hR) co_M_toLeave ml_M_126 im_M_toLeave se_M_toLeave in_M rfl rfl hd_M_toLeave ⟨by decide, by decide⟩ ⟨Nat.zero_le _, Nat.zero_le _⟩ hl.1 (Nat.le_of_ble_eq_true rfl) d_M_move_135 rfl (fun H locs h => ?_)
              refine W.eq (g2 := F0 m 138 ls []) rfl ?_
              have h : zH dC dI k q X (m_M_toLeave X (m_strike M kk ((Int32.toNatClampNeg (M 15 0)) - 1)) (M 16 (Int32.toNatClampNeg (nI kk))) (M 17 (Int32.toNatClampNeg (nI kk))) (M 20 (Int32.toNatClampNeg (nI kk))) (M 22 (Int32.toNatClampNeg (nI kk)))) (zA q) s.heap H locs := h
              refine lv_goto (tgt := 169) hx hb d_M_move_138 (by decide) ?_
              refine lv_iconst (v := 2) hx hb d_M_move_169 (by decide) ?_
              exact z_retE C h hr hk (by first | rfl | (simp only [r_M_move, m_M_move, eq_true hh1, eq_true hh2, eq_true hh3, eq_false hh4, eq_false hh5, eq_false hh6, ↓reduceIte]; done) | (simp [r_M_move, m_M_move, eq_true hh1, eq_true hh2, eq_true hh3, eq_false hh4, eq_false hh5, eq_false hh6]; done)) (by first | rfl | (simp only [r_M_move, m_M_move, eq_true hh1, eq_true hh2, eq_true hh3, eq_false hh4, eq_false hh5, eq_false hh6, ↓reduceIte]; done) | (simp [r_M_move, m_M_move, eq_true hh1, eq_true hh2, eq_true hh3, eq_false hh4, eq_false hh5, eq_false hh6]; done)) (by first | rfl | (simp only [r_M_move, m_M_move, eq_true hh1, eq_true hh2, eq_true hh3, eq_false hh4, eq_false hh5, eq_false hh6, ↓reduceIte]; done) | (simp [r_M_move, m_M_move, eq_true hh1, eq_true hh2, eq_true hh3, eq_false hh4, eq_false hh5, eq_false hh6]; done)) d_M_move_170
          · skip
            refine lv_aload_n hx hb d_M_move_113 rfl (lv_at hl 6 rfl) ?_
            refine lv_iload_n hx hb d_M_move_114 rfl (lv_at hl 4 rfl) ?_
            refine lv_iload hx hb d_M_move_115 (lv_at hl 2 rfl) ?_
            refine z_callV (i := 37) C h (k_M_toWrite l dC dI k q X (m_strike M kk ((Int32.toNatClampNeg (M 15 0)) - 1)) (M 17 (Int32.toNatClampNeg (nI kk))) (M 20 (Int32.toNatClampNeg (nI kk))) ((M 15 0).toNatClampNeg - 1) hs8 (by omega) hA hR) co_M_toWrite ml_M_123 im_M_toWrite se_M_toWrite in_M rfl rfl hd_M_toWrite ⟨by decide, by decide⟩ ⟨Nat.zero_le _, Nat.zero_le _⟩ hl.1 (Nat.le_of_ble_eq_true rfl) d_M_move_117 rfl (fun H locs h => ?_)
            refine W.eq (g2 := F0 m 120 ls []) rfl ?_
            have h : zH dC dI k q X (m_M_toWrite X (m_strike M kk ((Int32.toNatClampNeg (M 15 0)) - 1)) (M 17 (Int32.toNatClampNeg (nI kk))) (M 20 (Int32.toNatClampNeg (nI kk)))) (zA q) s.heap H locs := h
            refine lv_goto (tgt := 169) hx hb d_M_move_120 (by decide) ?_
            refine lv_iconst (v := 2) hx hb d_M_move_169 (by decide) ?_
            exact z_retE C h hr hk (by first | rfl | (simp only [r_M_move, m_M_move, eq_true hh1, eq_true hh2, eq_true hh3, eq_false hh4, eq_true hh5, ↓reduceIte]; done) | (simp [r_M_move, m_M_move, eq_true hh1, eq_true hh2, eq_true hh3, eq_false hh4, eq_true hh5]; done)) (by first | rfl | (simp only [r_M_move, m_M_move, eq_true hh1, eq_true hh2, eq_true hh3, eq_false hh4, eq_true hh5, ↓reduceIte]; done) | (simp [r_M_move, m_M_move, eq_true hh1, eq_true hh2, eq_true hh3, eq_false hh4, eq_true hh5]; done)) (by first | rfl | (simp only [r_M_move, m_M_move, eq_true hh1, eq_true hh2, eq_true hh3, eq_false hh4, eq_true hh5, ↓reduceIte]; done) | (simp [r_M_move, m_M_move, eq_true hh1, eq_true hh2, eq_true hh3, eq_false hh4, eq_true hh5]; done)) d_M_move_170
        · skip
          refine lv_aload_n hx hb d_M_move_98 rfl (lv_at hl 6 rfl) ?_
          refine lv_iload_n hx hb d_M_move_99 rfl (lv_at hl 4 rfl) ?_
          refine lv_iload hx hb d_M_move_100 (lv_at hl 2 rfl) ?_
          refine z_callV (i := 37) C h (k_M_toRead l dC dI k q X (m_strike M kk ((Int32.toNatClampNeg (M 15 0)) - 1)) (M 17 (Int32.toNatClampNeg (nI kk))) (M 20 (Int32.toNatClampNeg (nI kk))) ((M 15 0).toNatClampNeg - 1) hs8 (by omega) hA hR) co_M_toRead ml_M_119 im_M_toRead se_M_toRead in_M rfl rfl hd_M_toRead ⟨by decide, by decide⟩ ⟨Nat.zero_le _, Nat.zero_le _⟩ hl.1 (Nat.le_of_ble_eq_true rfl) d_M_move_102 rfl (fun H locs h => ?_)
          refine W.eq (g2 := F0 m 105 ls []) rfl ?_
          have h : zH dC dI k q X (m_M_toRead X (m_strike M kk ((Int32.toNatClampNeg (M 15 0)) - 1)) (M 17 (Int32.toNatClampNeg (nI kk))) (M 20 (Int32.toNatClampNeg (nI kk)))) (zA q) s.heap H locs := h
          refine lv_goto (tgt := 169) hx hb d_M_move_105 (by decide) ?_
          refine lv_iconst (v := 2) hx hb d_M_move_169 (by decide) ?_
          exact z_retE C h hr hk (by first | rfl | (simp only [r_M_move, m_M_move, eq_true hh1, eq_true hh2, eq_true hh3, eq_true hh4, ↓reduceIte]; done) | (simp [r_M_move, m_M_move, eq_true hh1, eq_true hh2, eq_true hh3, eq_true hh4]; done)) (by first | rfl | (simp only [r_M_move, m_M_move, eq_true hh1, eq_true hh2, eq_true hh3, eq_true hh4, ↓reduceIte]; done) | (simp [r_M_move, m_M_move, eq_true hh1, eq_true hh2, eq_true hh3, eq_true hh4]; done)) (by first | rfl | (simp only [r_M_move, m_M_move, eq_true hh1, eq_true hh2, eq_true hh3, eq_true hh4, ↓reduceIte]; done) | (simp [r_M_move, m_M_move, eq_true hh1, eq_true hh2, eq_true hh3, eq_true hh4]; done)) d_M_move_170
      · skip
        refine lv_aload_n hx hb d_M_move_77 rfl (lv_at hl 6 rfl) ?_
        refine lv_iload_n hx hb d_M_move_78 rfl (lv_at hl 5 rfl) ?_
        refine lv_iload_n hx hb d_M_move_79 rfl (lv_at hl 4 rfl) ?_
        refine lv_iload hx hb d_M_move_80 (lv_at hl 3 rfl) ?_
        refine lv_iload hx hb d_M_move_82 (lv_at hl 2 rfl) ?_
        refine lv_iload hx hb d_M_move_84 (lv_at hl 1 rfl) ?_
        refine lv_iload hx hb d_M_move_86 (lv_at hl 0 rfl) ?_
        refine z_callV (i := 37) C h (k_M_toCore l dC dI k q X (m_strike M kk ((Int32.toNatClampNeg (M 15 0)) - 1)) (M 16 (Int32.toNatClampNeg (nI kk))) (M 17 (Int32.toNatClampNeg (nI kk))) (M 19 (Int32.toNatClampNeg (nI kk))) (M 20 (Int32.toNatClampNeg (nI kk))) (M 21 (Int32.toNatClampNeg (nI kk))) (M 22 (Int32.toNatClampNeg (nI kk))) ((M 15 0).toNatClampNeg - 1) hs8 (by omega) (five_four hT hh3) hA hR) co_M_toCore ml_M_115 im_M_toCore se_M_toCore in_M rfl rfl hd_M_toCore ⟨by decide, by decide⟩ ⟨Nat.zero_le _, Nat.zero_le _⟩ hl.1 (Nat.le_of_ble_eq_true rfl) d_M_move_88 rfl (fun H locs h => ?_)
        refine W.eq (g2 := F0 m 91 ls []) rfl ?_
        have h : zH dC dI k q X (m_M_toCore X (m_strike M kk ((Int32.toNatClampNeg (M 15 0)) - 1)) (M 16 (Int32.toNatClampNeg (nI kk))) (M 17 (Int32.toNatClampNeg (nI kk))) (M 19 (Int32.toNatClampNeg (nI kk))) (M 20 (Int32.toNatClampNeg (nI kk))) (M 21 (Int32.toNatClampNeg (nI kk))) (M 22 (Int32.toNatClampNeg (nI kk)))) (zA q) s.heap H locs := h
        refine lv_goto (tgt := 169) hx hb d_M_move_91 (by decide) ?_
        refine lv_iconst (v := 2) hx hb d_M_move_169 (by decide) ?_
        exact z_retE C h hr hk (by first | rfl | (simp only [r_M_move, m_M_move, eq_true hh1, eq_true hh2, eq_false hh3, ↓reduceIte]; done) | (simp [r_M_move, m_M_move, eq_true hh1, eq_true hh2, eq_false hh3]; done)) (by first | rfl | (simp only [r_M_move, m_M_move, eq_true hh1, eq_true hh2, eq_false hh3, ↓reduceIte]; done) | (simp [r_M_move, m_M_move, eq_true hh1, eq_true hh2, eq_false hh3]; done)) (by first | rfl | (simp only [r_M_move, m_M_move, eq_true hh1, eq_true hh2, eq_false hh3, ↓reduceIte]; done) | (simp [r_M_move, m_M_move, eq_true hh1, eq_true hh2, eq_false hh3]; done)) d_M_move_170
    · skip
      refine lv_iconst (v := 1) hx hb d_M_move_18 (by decide) ?_
      exact z_retE C h hr hk (by first | rfl | (simp only [r_M_move, m_M_move, eq_true hh1, eq_false hh2, ↓reduceIte]; done) | (simp [r_M_move, m_M_move, eq_true hh1, eq_false hh2]; done)) (by first | rfl | (simp only [r_M_move, m_M_move, eq_true hh1, eq_false hh2, ↓reduceIte]; done) | (simp [r_M_move, m_M_move, eq_true hh1, eq_false hh2]; done)) (by first | rfl | (simp only [r_M_move, m_M_move, eq_true hh1, eq_false hh2, ↓reduceIte]; done) | (simp [r_M_move, m_M_move, eq_true hh1, eq_false hh2]; done)) d_M_move_19
  · skip
    refine lv_iconst (v := 0) hx hb d_M_move_8 (by decide) ?_
    exact z_retE C h hr hk (by first | rfl | (simp only [r_M_move, m_M_move, eq_false hh1, ↓reduceIte]; done) | (simp [r_M_move, m_M_move, eq_false hh1]; done)) (by first | rfl | (simp only [r_M_move, m_M_move, eq_false hh1, ↓reduceIte]; done) | (simp [r_M_move, m_M_move, eq_false hh1]; done)) (by first | rfl | (simp only [r_M_move, m_M_move, eq_false hh1, ↓reduceIte]; done) | (simp [r_M_move, m_M_move, eq_false hh1]; done)) d_M_move_9
def zMsg (M : zMS) (n : Nat) : Prop := ∀ kk, kk < n → vp_in (M 17 (Int32.toNatClampNeg (nI kk))) 4 ∧ vp_in (M 19 (Int32.toNatClampNeg (nI kk))) 5 ∧ vp_in (M 20 (Int32.toNatClampNeg (nI kk))) 4
theorem hd_M_deliver : y_M_deliver.cls ≠ "java/lang/invoke/MethodHandle" ∧ y_M_deliver.cls ≠ "java/lang/invoke/VarHandle" ∧ (parseMethodDescriptor y_M_deliver.desc).map (fun d => d.parameters.length) = some 1 := by decide +kernel
def r_M_deliver (X : zXS) (M : zMS) (x : Int32) : Int32 := (if x < 0 then (-1) else (if x < (M 15 0) then (r_M_move X M (Int32.toNatClampNeg x)) else (-1)))
def m_M_deliver (X : zXS) (M : zMS) (x : Int32) : zMS := (if x < 0 then M else (if x < (M 15 0) then (m_M_move X M (Int32.toNatClampNeg x)) else M))
set_option maxHeartbeats 1000000 in
set_option maxRecDepth 100000 in
theorem k_M_deliver (l : Launch) (dC : Nat → ClassId) (dI : Nat → Nat → Nat) (k : Nat → ClassId) (q : Nat → Nat) (X : zXS) (M : zMS) (x : Int32)  (n : Nat) (hn : M 15 0 = nI n) (hb9 : n + 8 < 200) (hW : zMsg M n) : zMet l dC dI k q y_M_deliver c_M_deliver 2 (some .int) 4 110 [.ref (q 37), .int x] (some (.int (r_M_deliver X M x))) X M X (m_M_deliver X M x) := by
  refine zMet.of (by decide) (Nat.le_of_ble_eq_true rfl) ?_
  intro p e s m args below meth c ls C hr hk hl h
  have hx := C.1
  have hb := C.2.1
  have hl : lv_has ls 2 [(0, .ref (q 37)), (1, .int x)] := hl
  refine lv_iload_n hx hb d_M_deliver_0 rfl (lv_at hl 1 rfl) ?_
  refine lv_if_lt (tgt := 12) hx hb d_M_deliver_1 (by decide) (fun hh1 => ?_) (fun hh1 => ?_)
  · skip
    refine lv_iconst (v := -1) hx hb d_M_deliver_12 (by decide) ?_
    refine lv_goto (tgt := 21) hx hb d_M_deliver_13 (by decide) ?_
    exact z_retE C h hr hk (by first | rfl | (simp only [r_M_deliver, m_M_deliver, eq_true hh1, ↓reduceIte]; done) | (simp [r_M_deliver, m_M_deliver, eq_true hh1]; done)) (by first | rfl | (simp only [r_M_deliver, m_M_deliver, eq_true hh1, ↓reduceIte]; done) | (simp [r_M_deliver, m_M_deliver, eq_true hh1]; done)) (by first | rfl | (simp only [r_M_deliver, m_M_deliver, eq_true hh1, ↓reduceIte]; done) | (simp [r_M_deliver, m_M_deliver, eq_true hh1]; done)) d_M_deliver_21
  · skip
    refine lv_iload_n hx hb d_M_deliver_4 rfl (lv_at hl 1 rfl) ?_
    refine lv_aload_n hx hb d_M_deliver_5 rfl (lv_at hl 0 rfl) ?_
    refine g_M_81 C h d_M_deliver_6 ?_
    refine lv_icmp_lt (tgt := 16) hx hb d_M_deliver_9 (by decide) (fun hh2 => ?_) (fun hh2 => ?_)
    · skip
      refine lv_aload_n hx hb d_M_deliver_16 rfl (lv_at hl 0 rfl) ?_
      refine lv_iload_n hx hb d_M_deliver_17 rfl (lv_at hl 1 rfl) ?_
      refine z_callV (i := 37) C h (k_M_move l dC dI k q X M (Int32.toNatClampNeg x) n hn hb9 (k_lt hh1 hh2 hn (by omega)) (hW _ (k_lt hh1 hh2 hn (by omega))).1 (hW _ (k_lt hh1 hh2 hn (by omega))).2.1 (hW _ (k_lt hh1 hh2 hn (by omega))).2.2) co_M_move ml_M_146 im_M_move se_M_move in_M rfl rfl hd_M_move ⟨by decide, by decide⟩ ⟨Nat.zero_le _, Nat.zero_le _⟩ hl.1 (Nat.le_of_ble_eq_true rfl) d_M_deliver_18 (by rw [← k_nat hh1]; rfl) (fun H locs h => ?_)
      refine W.eq (g2 := F0 m 21 ls [.int (r_M_move X M (Int32.toNatClampNeg x))]) rfl ?_
      have h : zH dC dI k q X (m_M_move X M (Int32.toNatClampNeg x)) (zA q) s.heap H locs := h
      exact z_retE C h hr hk (by first | rfl | (simp only [r_M_deliver, m_M_deliver, eq_false hh1, eq_true hh2, ↓reduceIte]; done) | (simp [r_M_deliver, m_M_deliver, eq_false hh1, eq_true hh2]; done)) (by first | rfl | (simp only [r_M_deliver, m_M_deliver, eq_false hh1, eq_true hh2, ↓reduceIte]; done) | (simp [r_M_deliver, m_M_deliver, eq_false hh1, eq_true hh2]; done)) (by first | rfl | (simp only [r_M_deliver, m_M_deliver, eq_false hh1, eq_true hh2, ↓reduceIte]; done) | (simp [r_M_deliver, m_M_deliver, eq_false hh1, eq_true hh2]; done)) d_M_deliver_21
    · skip
      refine lv_iconst (v := -1) hx hb d_M_deliver_12 (by decide) ?_
      refine lv_goto (tgt := 21) hx hb d_M_deliver_13 (by decide) ?_
      exact z_retE C h hr hk (by first | rfl | (simp only [r_M_deliver, m_M_deliver, eq_false hh1, eq_false hh2, ↓reduceIte]; done) | (simp [r_M_deliver, m_M_deliver, eq_false hh1, eq_false hh2]; done)) (by first | rfl | (simp only [r_M_deliver, m_M_deliver, eq_false hh1, eq_false hh2, ↓reduceIte]; done) | (simp [r_M_deliver, m_M_deliver, eq_false hh1, eq_false hh2]; done)) (by first | rfl | (simp only [r_M_deliver, m_M_deliver, eq_false hh1, eq_false hh2, ↓reduceIte]; done) | (simp [r_M_deliver, m_M_deliver, eq_false hh1, eq_false hh2]; done)) d_M_deliver_21
end
section
def m_in (X : zXS) (M : zMS) : Nat → Nat → zMS × Int32
  | 0, _ => (M, 0)
  | c + 1, i => if r_M_move X M i = 2 then (m_M_move X M i, 1) else m_in X M c (i + 1)
def m_out (X : zXS) : Nat → Nat → zMS → Int32 × zMS
  | 0, t, M => (nI t, M)
  | c + 1, t, M => if (m_in X M (M 15 0).toNatClampNeg 0).2 = 0 then (nI t, (m_in X M (M 15 0).toNatClampNeg 0).1) else m_out X c (t + 1) (m_in X M (M 15 0).toNatClampNeg 0).1
def m_most (x : Int32) : Int32 := if x < 1 then 0 else if x ≤ 64 then x else 0
def r_M_run (X : zXS) (M : zMS) (x : Int32) : Int32 := (m_out X (m_most x).toNatClampNeg 0 M).1
def m_M_run (X : zXS) (M : zMS) (x : Int32) : zMS := (m_out X (m_most x).toNatClampNeg 0 M).2
theorem m_most_nat (x : Int32) : ∃ j, j ≤ 64 ∧ m_most x = nI j := by
  unfold m_most
  split
  · exact ⟨0, by omega, rfl⟩
  · next h1 =>
    split
    · next h2 =>
      have h0 : ¬ x < 0 := by
        rw [Int32.lt_iff_toInt_lt] at h1 ⊢
        have e1 : (1 : Int32).toInt = 1 := rfl
        have e0 : (0 : Int32).toInt = 0 := rfl
        omega
      exact nI_of2 (M := 64) (n := 64) rfl h0 h2
    · exact ⟨0, by omega, rfl⟩
theorem m_move_same {X : zXS} {M : zMS} {i : Nat} (h : ¬ r_M_move X M i = 2) : m_M_move X M i = M := by
  unfold r_M_move at h
  unfold m_M_move
  split
  · split
    · next h1 h2 => rw [if_pos h1, if_pos h2] at h; exact absurd rfl h
    · rfl
  · rfl
theorem hd_M_run : y_M_run.cls ≠ "java/lang/invoke/MethodHandle" ∧ y_M_run.cls ≠ "java/lang/invoke/VarHandle" ∧ (parseMethodDescriptor y_M_run.desc).map (fun d => d.parameters.length) = some 1 := by decide +kernel
theorem m_in_G {X : zXS} {M1 : zMS} {n1 : Nat} {G : zMS → Prop} (hn1 : M1 15 0 = nI n1) (hW1 : zMsg M1 n1) (hG1 : ∀ kk, kk < n1 → r_M_move X M1 kk = 2 → G (m_M_move X M1 kk)) (hg : G M1) : G (m_in X M1 n1 0).1 := by
  have : ∀ (c i : Nat), i + c = n1 → G (m_in X M1 c i).1 := by
    intro c
    induction c with
    | zero => intro i _; exact hg
    | succ c ih =>
      intro i hi
      rw [m_in]
      split
      · next h => exact hG1 i (by omega) h
      · exact ih (i + 1) (by omega)
  exact this n1 0 (by omega)
set_option maxHeartbeats 1000000 in
set_option maxRecDepth 100000 in
theorem k_M_run (l : Launch) (dC : Nat → ClassId) (dI : Nat → Nat → Nat) (k : Nat → ClassId) (q : Nat → Nat) (X : zXS) (M : zMS) (x : Int32) (G : zMS → Prop) (hG : ∀ M1, G M1 → ∃ n1, M1 15 0 = nI n1 ∧ n1 + 8 < 200 ∧ zMsg M1 n1 ∧ ∀ kk, kk < n1 → r_M_move X M1 kk = 2 → G (m_M_move X M1 kk)) (hg0 : G M) : zMet l dC dI k q y_M_run c_M_run 6 (some .int) 4 110 [.ref (q 37), .int x] (some (.int (r_M_run X M x))) X M X (m_M_run X M x) := by
  refine zMet.of (by decide) (Nat.le_of_ble_eq_true rfl) ?_
  intro p e s m args below meth c ls C hr hk hl h
  have hx := C.1
  have hb := C.2.1
  have hl : lv_has ls 6 [(0, .ref (q 37)), (1, .int x)] := hl
  have inner : ∀ (M1 : zMS) (n1 : Nat) (tk mo : Int32), M1 15 0 = nI n1 → n1 + 8 < 200 → zMsg M1 n1 → (∀ (ls : Array Slot) (H : Heap) (locs : List Loc), lv_has ls 6 [(4, .int ((m_in X M1 n1 0).2)), (3, .int tk), (2, .int mo), (0, .ref (q 37)), (1, .int x)] → zH dC dI k q X (m_in X M1 n1 0).1 (zA q) s.heap H locs → W p l e { frames := 4, cells := 0, slots := 0, locals := 110 } s m args below meth c H locs 0 0 (MQ below (zQc dC dI k q X (m_M_run X M x) (some (.int (r_M_run X M x)))) args s 0 0 (zA q)) (F0 m 75 ls [])) → ∀ (c0 i : Nat) (ls : Array Slot) (H : Heap) (locs : List Loc), i + c0 = n1 → (m_in X M1 n1 0) = m_in X M1 c0 i → lv_has ls 6 [(5, .int (nI i)), (4, .int 0), (3, .int tk), (2, .int mo), (0, .ref (q 37)), (1, .int x)] → zH dC dI k q X M1 (zA q) s.heap H locs → W p l e { frames := 4, cells := 0, slots := 0, locals := 110 } s m args below meth c H locs 0 0 (MQ below (zQc dC dI k q X (m_M_run X M x) (some (.int (r_M_run X M x)))) args s 0 0 (zA q)) (F0 m 38 ls []) := by
    intro M1 n1 tk mo hn1 hb1 hW1 K c0
    induction c0 with
    | zero =>
      intro i ls H locs hi hres hl h
      refine lv_iload hx hb d_M_run_38 (lv_at hl 0 rfl) ?_
      refine lv_aload_n hx hb d_M_run_40 rfl (lv_at hl 4 rfl) ?_
      refine g_M_81 C h d_M_run_41 ?_
      refine lv_icmp_ge (tgt := 75) hx hb d_M_run_44 (by decide) (fun hh1 => ?_) (fun hh1 => absurd (by rw [hn1]; exact nI_le (by omega) (by omega)) hh1)
      have e9 : (m_in X M1 n1 0) = (M1, 0) := (by rw [hres, m_in])
      exact K _ _ _ (by rw [e9]; exact lv_sub hl [1, 2, 3, 4, 5] rfl) (by rw [e9]; exact h)
    | succ c0 ih =>
      intro i ls H locs hi hres hl h
      refine lv_iload hx hb d_M_run_38 (lv_at hl 0 rfl) ?_
      refine lv_aload_n hx hb d_M_run_40 rfl (lv_at hl 4 rfl) ?_
      refine g_M_81 C h d_M_run_41 ?_
      refine lv_icmp_ge (tgt := 75) hx hb d_M_run_44 (by decide) (fun hh2 => absurd hh2 (by rw [hn1]; exact nI_ge (by omega) (by omega))) (fun hh2 => ?_)
      refine lv_iload hx hb d_M_run_47 (lv_at hl 1 rfl) ?_
      refine lv_if_ne (tgt := 75) hx hb d_M_run_49 (by decide) (fun hh3 => absurd (by decide) hh3) (fun _ => ?_)
      refine lv_aload_n hx hb d_M_run_52 rfl (lv_at hl 4 rfl) ?_
      refine lv_iload hx hb d_M_run_53 (lv_at hl 0 rfl) ?_
      refine z_callV (i := 37) C h (k_M_move l dC dI k q X M1 i n1 hn1 hb1 (by omega) (hW1 i (by omega)).1 (hW1 i (by omega)).2.1 (hW1 i (by omega)).2.2) co_M_move ml_M_146 im_M_move se_M_move in_M rfl rfl hd_M_move ⟨by decide, by decide⟩ ⟨Nat.zero_le _, Nat.zero_le _⟩ hl.1 (Nat.le_of_ble_eq_true rfl) d_M_run_55 rfl (fun H locs h => ?_)
      refine W.eq (g2 := F0 m 58 ls [.int (r_M_move X M1 i)]) rfl ?_
      have h : zH dC dI k q X (m_M_move X M1 i) (zA q) s.heap H locs := h
      refine lv_iconst (v := 2) hx hb d_M_run_58 (by decide) ?_
      refine lv_icmp_ne (tgt := 66) hx hb d_M_run_59 (by decide) (fun hh4 => ?_) (fun hh4 => ?_)
      · skip
        refine lv_iconst (v := 0) hx hb d_M_run_66 (by decide) ?_
        refine lv_istore hx hb d_M_run_67 hl (by decide) rfl (fun ls hl => ?_)
        have hl : lv_has ls 6 [(4, .int 0), (5, .int (nI i)), (3, .int tk), (2, .int mo), (0, .ref (q 37)), (1, .int x)] := hl
        refine lv_iinc (k := 1) (v := ((nI i) + 1)) hx hb d_M_run_69 hl rfl rfl (by decide) rfl (fun ls hl => ?_)
        have hl : lv_has ls 6 [(5, .int ((nI i) + 1)), (4, .int 0), (3, .int tk), (2, .int mo), (0, .ref (q 37)), (1, .int x)] := hl
        refine lv_goto (tgt := 38) hx hb d_M_run_72 (by decide) ?_
        exact ih (i + 1) _ _ _ (by omega) (by rw [hres, m_in, if_neg hh4]) (by rw [← nI_1]; exact lv_sub hl [0, 1, 2, 3, 4, 5] rfl) (by rw [m_move_same hh4] at h; exact h)
      · skip
        refine lv_iconst (v := 1) hx hb d_M_run_62 (by decide) ?_
        refine lv_goto (tgt := 67) hx hb d_M_run_63 (by decide) ?_
        refine lv_istore hx hb d_M_run_67 hl (by decide) rfl (fun ls hl => ?_)
        have hl : lv_has ls 6 [(4, .int 1), (5, .int (nI i)), (3, .int tk), (2, .int mo), (0, .ref (q 37)), (1, .int x)] := hl
        refine lv_iinc (k := 1) (v := ((nI i) + 1)) hx hb d_M_run_69 hl rfl rfl (by decide) rfl (fun ls hl => ?_)
        have hl : lv_has ls 6 [(5, .int ((nI i) + 1)), (4, .int 1), (3, .int tk), (2, .int mo), (0, .ref (q 37)), (1, .int x)] := hl
        refine lv_goto (tgt := 38) hx hb d_M_run_72 (by decide) ?_
        refine lv_iload hx hb d_M_run_38 (lv_at hl 0 rfl) ?_
        refine lv_aload_n hx hb d_M_run_40 rfl (lv_at hl 4 rfl) ?_
        refine g_M_81 C h d_M_run_41 ?_
        refine lv_icmp_ge (tgt := 75) hx hb d_M_run_44 (by decide) (fun hh5 => ?_) (fun hh5 => ?_)
        · skip
          have e9 : (m_in X M1 n1 0) = ((m_M_move X M1 i), 1) := (by rw [hres, m_in, if_pos hh4])
          exact K _ _ _ (by rw [e9]; exact lv_sub hl [1, 2, 3, 4, 5] rfl) (by rw [e9]; exact h)
        · skip
          refine lv_iload hx hb d_M_run_47 (lv_at hl 1 rfl) ?_
          refine lv_if_ne (tgt := 75) hx hb d_M_run_49 (by decide) (fun _ => ?_) (fun hh6 => absurd hh6 (by decide))
          have e9 : (m_in X M1 n1 0) = ((m_M_move X M1 i), 1) := (by rw [hres, m_in, if_pos hh4])
          exact K _ _ _ (by rw [e9]; exact lv_sub hl [1, 2, 3, 4, 5] rfl) (by rw [e9]; exact h)
  obtain ⟨mo, hmo, emo⟩ := m_most_nat x
  have emo2 : (m_most x).toNatClampNeg = mo := rows_cl emo (by omega)
  have outer : ∀ (c0 t : Nat) (M1 : zMS) (b : Int32) (ls : Array Slot) (H : Heap) (locs : List Loc), t + c0 = mo → G M1 → ¬ b = 0 → m_out X mo 0 M = m_out X c0 t M1 → lv_has ls 6 [(4, .int b), (3, .int (nI t)), (2, .int (nI mo)), (0, .ref (q 37)), (1, .int x)] → zH dC dI k q X M1 (zA q) s.heap H locs → W p l e { frames := 4, cells := 0, slots := 0, locals := 110 } s m args below meth c H locs 0 0 (MQ below (zQc dC dI k q X (m_M_run X M x) (some (.int (r_M_run X M x)))) args s 0 0 (zA q)) (F0 m 22 ls []) := by
    intro c0
    induction c0 with
    | zero =>
      intro t M1 b ls H locs ht hg hb0 hres hl h
      refine lv_iload_n hx hb d_M_run_22 rfl (lv_at hl 1 rfl) ?_
      refine lv_iload_n hx hb d_M_run_23 rfl (lv_at hl 2 rfl) ?_
      refine lv_icmp_ge (tgt := 86) hx hb d_M_run_24 (by decide) (fun hh7 => ?_) (fun hh7 => absurd (nI_le (by omega) (by omega)) hh7)
      refine lv_iload_n hx hb d_M_run_86 rfl (lv_at hl 1 rfl) ?_
      exact z_retE C h hr hk (by rw [r_M_run, emo2, hres, m_out]) rfl (by rw [m_M_run, emo2, hres, m_out]) d_M_run_87
    | succ c0 ih =>
      intro t M1 b ls H locs ht hg hb0 hres hl h
      obtain ⟨n1, hn1, hb1, hW1, hG1⟩ := hG M1 hg
      have hcl : (M1 15 0).toNatClampNeg = n1 := rows_cl hn1 (by omega)
      rw [m_out, hcl] at hres
      refine lv_iload_n hx hb d_M_run_22 rfl (lv_at hl 1 rfl) ?_
      refine lv_iload_n hx hb d_M_run_23 rfl (lv_at hl 2 rfl) ?_
      refine lv_icmp_ge (tgt := 86) hx hb d_M_run_24 (by decide) (fun hh8 => absurd hh8 (nI_ge (by omega) (by omega))) (fun hh8 => ?_)
      refine lv_iload hx hb d_M_run_27 (lv_at hl 0 rfl) ?_
      refine lv_if_eq (tgt := 86) hx hb d_M_run_29 (by decide) (fun hh9 => absurd hh9 hb0) (fun hh9 => ?_)
      refine lv_iconst (v := 0) hx hb d_M_run_32 (by decide) ?_
      refine lv_istore hx hb d_M_run_33 hl (by decide) rfl (fun ls hl => ?_)
      have hl : lv_has ls 6 [(4, .int 0), (3, .int (nI t)), (2, .int (nI mo)), (0, .ref (q 37)), (1, .int x)] := hl
      refine lv_iconst (v := 0) hx hb d_M_run_35 (by decide) ?_
      refine lv_istore hx hb d_M_run_36 hl (by decide) rfl (fun ls hl => ?_)
      have hl : lv_has ls 6 [(5, .int 0), (4, .int 0), (3, .int (nI t)), (2, .int (nI mo)), (0, .ref (q 37)), (1, .int x)] := hl
      refine inner M1 n1 _ _ hn1 hb1 hW1 ?_ n1 0 _ _ _ (by omega) rfl (lv_sub hl [0, 1, 2, 3, 4, 5] rfl) h
      intro ls H locs hl h
      have hl : lv_has ls 6 [(4, .int ((m_in X M1 n1 0).2)), (3, .int (nI t)), (2, .int (nI mo)), (0, .ref (q 37)), (1, .int x)] := hl
      refine lv_iload hx hb d_M_run_75 (lv_at hl 0 rfl) ?_
      refine lv_if_eq (tgt := 22) hx hb d_M_run_77 (by decide) (fun hh10 => ?_) (fun hh10 => ?_)
      · skip
        rw [if_pos hh10] at hres
        refine lv_iload_n hx hb d_M_run_22 rfl (lv_at hl 1 rfl) ?_
        refine lv_iload_n hx hb d_M_run_23 rfl (lv_at hl 2 rfl) ?_
        refine lv_icmp_ge (tgt := 86) hx hb d_M_run_24 (by decide) (fun hh11 => absurd hh11 (nI_ge (by omega) (by omega))) (fun hh11 => ?_)
        refine lv_iload hx hb d_M_run_27 (lv_at hl 0 rfl) ?_
        refine lv_if_eq (tgt := 86) hx hb d_M_run_29 (by decide) (fun hh12 => ?_) (fun hh12 => absurd hh10 hh12)
        refine lv_iload_n hx hb d_M_run_86 rfl (lv_at hl 1 rfl) ?_
        exact z_retE C h hr hk (by rw [r_M_run, emo2, hres]) rfl (by rw [m_M_run, emo2, hres]) d_M_run_87
      · skip
        rw [if_neg hh10] at hres
        refine lv_iinc (k := 1) (v := nI t + 1) hx hb d_M_run_80 hl rfl rfl (by decide) rfl (fun ls hl => ?_)
        refine lv_goto (tgt := 22) hx hb d_M_run_83 (by decide) ?_
        exact ih (t + 1) (m_in X M1 n1 0).1 _ _ _ _ (by omega) (m_in_G hn1 hW1 hG1 hg) hh10 hres (by rw [← nI_1]; exact lv_sub hl [1, 0, 2, 3, 4] rfl) h
  refine lv_iload_n hx hb d_M_run_0 rfl (lv_at hl 1 rfl) ?_
  refine lv_iconst (v := 1) hx hb d_M_run_1 (by decide) ?_
  refine lv_icmp_lt (tgt := 11) hx hb d_M_run_2 (by decide) (fun hh13 => ?_) (fun hh13 => ?_)
  · skip
    refine lv_iconst (v := 0) hx hb d_M_run_11 (by decide) ?_
    refine lv_goto (tgt := 16) hx hb d_M_run_12 (by decide) ?_
    refine z_top (y := nI mo) (by rw [← emo]; simp only [m_most, eq_true hh13, ↓reduceIte]) ?_
    refine lv_istore_n hx hb d_M_run_16 rfl hl (by decide) rfl (fun ls hl => ?_)
    have hl : lv_has ls 6 [(2, .int (nI mo)), (0, .ref (q 37)), (1, .int x)] := hl
    refine lv_iconst (v := 0) hx hb d_M_run_17 (by decide) ?_
    refine lv_istore_n hx hb d_M_run_18 rfl hl (by decide) rfl (fun ls hl => ?_)
    have hl : lv_has ls 6 [(3, .int 0), (2, .int (nI mo)), (0, .ref (q 37)), (1, .int x)] := hl
    refine lv_iconst (v := 1) hx hb d_M_run_19 (by decide) ?_
    refine lv_istore hx hb d_M_run_20 hl (by decide) rfl (fun ls hl => ?_)
    have hl : lv_has ls 6 [(4, .int 1), (3, .int 0), (2, .int (nI mo)), (0, .ref (q 37)), (1, .int x)] := hl
    exact outer mo 0 M 1 _ _ _ (by omega) hg0 (by decide) rfl (lv_sub hl [0, 1, 2, 3, 4] rfl) h
  · skip
    refine lv_iload_n hx hb d_M_run_5 rfl (lv_at hl 1 rfl) ?_
    refine lv_bipush (v := 64) hx hb d_M_run_6 (by decide) ?_
    refine lv_icmp_le (tgt := 15) hx hb d_M_run_8 (by decide) (fun hh14 => ?_) (fun hh14 => ?_)
    · skip
      refine lv_iload_n hx hb d_M_run_15 rfl (lv_at hl 1 rfl) ?_
      refine z_top (y := nI mo) (by rw [← emo]; simp only [m_most, eq_false hh13, eq_true hh14, ↓reduceIte]) ?_
      refine lv_istore_n hx hb d_M_run_16 rfl hl (by decide) rfl (fun ls hl => ?_)
      have hl : lv_has ls 6 [(2, .int (nI mo)), (0, .ref (q 37)), (1, .int x)] := hl
      refine lv_iconst (v := 0) hx hb d_M_run_17 (by decide) ?_
      refine lv_istore_n hx hb d_M_run_18 rfl hl (by decide) rfl (fun ls hl => ?_)
      have hl : lv_has ls 6 [(3, .int 0), (2, .int (nI mo)), (0, .ref (q 37)), (1, .int x)] := hl
      refine lv_iconst (v := 1) hx hb d_M_run_19 (by decide) ?_
      refine lv_istore hx hb d_M_run_20 hl (by decide) rfl (fun ls hl => ?_)
      have hl : lv_has ls 6 [(4, .int 1), (3, .int 0), (2, .int (nI mo)), (0, .ref (q 37)), (1, .int x)] := hl
      exact outer mo 0 M 1 _ _ _ (by omega) hg0 (by decide) rfl (lv_sub hl [0, 1, 2, 3, 4] rfl) h
    · skip
      refine lv_iconst (v := 0) hx hb d_M_run_11 (by decide) ?_
      refine lv_goto (tgt := 16) hx hb d_M_run_12 (by decide) ?_
      refine z_top (y := nI mo) (by rw [← emo]; simp only [m_most, eq_false hh13, eq_false hh14, ↓reduceIte]) ?_
      refine lv_istore_n hx hb d_M_run_16 rfl hl (by decide) rfl (fun ls hl => ?_)
      have hl : lv_has ls 6 [(2, .int (nI mo)), (0, .ref (q 37)), (1, .int x)] := hl
      refine lv_iconst (v := 0) hx hb d_M_run_17 (by decide) ?_
      refine lv_istore_n hx hb d_M_run_18 rfl hl (by decide) rfl (fun ls hl => ?_)
      have hl : lv_has ls 6 [(3, .int 0), (2, .int (nI mo)), (0, .ref (q 37)), (1, .int x)] := hl
      refine lv_iconst (v := 1) hx hb d_M_run_19 (by decide) ?_
      refine lv_istore hx hb d_M_run_20 hl (by decide) rfl (fun ls hl => ?_)
      have hl : lv_has ls 6 [(4, .int 1), (3, .int 0), (2, .int (nI mo)), (0, .ref (q 37)), (1, .int x)] := hl
      exact outer mo 0 M 1 _ _ _ (by omega) hg0 (by decide) rfl (lv_sub hl [0, 1, 2, 3, 4] rfl) h
end
