theorem pv_bk_0 {j d kd to rq n : Nat} (h1 : to ≠ d) (h2 : rq ≠ d) : pv_bk j d kd to rq n = 0 := by
  unfold pv_bk
  split <;> simp [h1, h2]
theorem pv_oc_le (kp ow c : Nat) : pv_oc kp ow c ≤ 1 := by unfold pv_oc; split <;> omega
theorem pv_sb_le (sh c : Nat) : pv_sb sh c ≤ 1 := by unfold pv_sb; omega
set_option maxHeartbeats 4000000 in
theorem pv_t_rd {st st' : Nat → Nat} {k k' : Nat → Nat → Nat} {got need got' need' : Nat → Nat} {kp ow sh c : Nat} (h : pv_li st k got need kp ow sh) (hc : c < 4) (hs : st c = 0) (hst : ∀ d, st' d = if d = c then 4 else st d) (hg : ∀ d, got' d = if d = c then 0 else got d) (hn : ∀ d, need' d = if d = c then 0 else need d) (hk : ∀ j d, k' j d = k j d + pv_bk j d 0 4 c 0) (h13 : ∀ d, k' 13 d ≤ 3 * k' 10 d) : pv_li st' k' got' need' kp ow sh := by
  obtain ⟨hL, hX, hF, hkp, how, hsh, hz, h13o⟩ := h
  have L := hL c hc
  rw [hs] at L
  simp only [pv_lc] at L
  have K : ∀ d, d < 4 → d ≠ c → ∀ j, k' j d = k j d := by
    intro d h4 n0 j
    have e := hk j d
    rw [pv_bk_0 (show 4 ≠ d by omega) (show c ≠ d by omega)] at e
    omega
  have C0 := hk 0 c
  have C1 := hk 1 c
  have C2 := hk 2 c
  have C3 := hk 3 c
  have C4 := hk 4 c
  have C5 := hk 5 c
  have C6 := hk 6 c
  have C7 := hk 7 c
  have C8 := hk 8 c
  have C9 := hk 9 c
  have C10 := hk 10 c
  have C11 := hk 11 c
  have C12 := hk 12 c
  have C13 := hk 13 c
  simp [pv_bk, show (4 : Nat) ≠ c by omega] at C0 C1 C2 C3 C4 C5 C6 C7 C8 C9 C10 C11 C12 C13
  have H10 := hk 10 4
  simp [pv_bk, show c ≠ 4 by omega] at H10
  have OO : ∀ d, d < 4 → d ≠ c → pv_oc kp ow d = pv_oc kp ow d := by
    intro d h4 n0; rfl
  have SS : ∀ d, d < 4 → d ≠ c → pv_sb sh d = pv_sb sh d := by
    intro d h4 n0; rfl
  have TT : ∀ d, d < 4 → d ≠ c → st' d = st d := by
    intro d h4 n0; rw [hst d, if_neg n0]
  have LLc : pv_lc (st' c) (fun j => k' j c) (got' c) (need' c) (pv_oc kp ow c) (pv_sb sh c) := by
    rw [hst c, if_pos rfl, hg c, hn c, if_pos rfl, if_pos rfl]
    simp only [pv_lc]
    omega
  have LL : ∀ d, d < 4 → pv_lc (st' d) (fun j => k' j d) (got' d) (need' d) (pv_oc kp ow d) (pv_sb sh d) := by
    intro d h4
    by_cases n0 : d = c
    · subst n0; exact LLc
    rw [TT d h4 n0, OO d h4 n0, SS d h4 n0, show (fun j => k' j d) = (fun j => k j d) from funext (K d h4 n0), hg d, if_neg n0, hn d, if_neg n0]
    exact hL d h4
  have X := pv_s4_1 hc (f := fun z => pv_xv (st z) (fun j => k j z) (pv_oc kp ow z)) (g := fun z => pv_xv (st' z) (fun j => k' j z) (pv_oc kp ow z)) (fun d h4 n0 => by
    show pv_xv (st' d) (fun j => k' j d) (pv_oc kp ow d) = pv_xv (st d) (fun j => k j d) (pv_oc kp ow d)
    rw [TT d h4 n0, OO d h4 n0, show (fun j => k' j d) = (fun j => k j d) from funext (K d h4 n0)])
  have Y := pv_s4_1 hc (f := fun c => k 4 c) (g := fun c => k' 4 c) (fun d h4 n0 => K d h4 n0 4)
  try simp only at X Y
  have xa : pv_xv (st c) (fun j => k j c) (pv_oc kp ow c) = 0 := by rw [hs]; simp only [pv_xv]
  have xb : pv_xv (st' c) (fun j => k' j c) (pv_oc kp ow c) = k' 11 c := by rw [hst c, if_pos rfl]; simp only [pv_xv]
  rw [xa, xb] at X
  refine ⟨LL, ?_, ?_, ?_, ?_, ?_, ?_, h13⟩
  · omega
  · omega
  · omega
  · omega
  · omega
  · exact hz
set_option maxHeartbeats 4000000 in
theorem pv_t_wr {st st' : Nat → Nat} {k k' : Nat → Nat → Nat} {got need got' need' : Nat → Nat} {kp ow sh c : Nat} (h : pv_li st k got need kp ow sh) (hc : c < 4) (hs : st c = 0 ∨ st c = 1) (hst : ∀ d, st' d = if d = c then (if st c = 1 then 7 else 5) else st d) (hg : ∀ d, got' d = if d = c then 0 else got d) (hn : ∀ d, need' d = if d = c then 0 else need d) (hk : ∀ j d, k' j d = k j d + pv_bk j d 1 4 c 0) (h13 : ∀ d, k' 13 d ≤ 3 * k' 10 d) : pv_li st' k' got' need' kp ow sh := by
  obtain ⟨hL, hX, hF, hkp, how, hsh, hz, h13o⟩ := h
  have L := hL c hc
  have h130 := h13o c
  have K : ∀ d, d < 4 → d ≠ c → ∀ j, k' j d = k j d := by
    intro d h4 n0 j
    have e := hk j d
    rw [pv_bk_0 (show 4 ≠ d by omega) (show c ≠ d by omega)] at e
    omega
  have C0 := hk 0 c
  have C1 := hk 1 c
  have C2 := hk 2 c
  have C3 := hk 3 c
  have C4 := hk 4 c
  have C5 := hk 5 c
  have C6 := hk 6 c
  have C7 := hk 7 c
  have C8 := hk 8 c
  have C9 := hk 9 c
  have C10 := hk 10 c
  have C11 := hk 11 c
  have C12 := hk 12 c
  have C13 := hk 13 c
  simp [pv_bk, show (4 : Nat) ≠ c by omega] at C0 C1 C2 C3 C4 C5 C6 C7 C8 C9 C10 C11 C12 C13
  have H10 := hk 10 4
  simp [pv_bk, show c ≠ 4 by omega] at H10
  have OO : ∀ d, d < 4 → d ≠ c → pv_oc kp ow d = pv_oc kp ow d := by
    intro d h4 n0; rfl
  have SS : ∀ d, d < 4 → d ≠ c → pv_sb sh d = pv_sb sh d := by
    intro d h4 n0; rfl
  have TT : ∀ d, d < 4 → d ≠ c → st' d = st d := by
    intro d h4 n0; rw [hst d, if_neg n0]
  have LLc : pv_lc (st' c) (fun j => k' j c) (got' c) (need' c) (pv_oc kp ow c) (pv_sb sh c) := by
    rw [hst c, if_pos rfl, hg c, hn c, if_pos rfl, if_pos rfl]
    rcases hs with e | e <;> rw [e] at L ⊢ <;> simp [pv_lc] at L ⊢ <;> omega
  have LL : ∀ d, d < 4 → pv_lc (st' d) (fun j => k' j d) (got' d) (need' d) (pv_oc kp ow d) (pv_sb sh d) := by
    intro d h4
    by_cases n0 : d = c
    · subst n0; exact LLc
    rw [TT d h4 n0, OO d h4 n0, SS d h4 n0, show (fun j => k' j d) = (fun j => k j d) from funext (K d h4 n0), hg d, if_neg n0, hn d, if_neg n0]
    exact hL d h4
  have X := pv_s4_1 hc (f := fun z => pv_xv (st z) (fun j => k j z) (pv_oc kp ow z)) (g := fun z => pv_xv (st' z) (fun j => k' j z) (pv_oc kp ow z)) (fun d h4 n0 => by
    show pv_xv (st' d) (fun j => k' j d) (pv_oc kp ow d) = pv_xv (st d) (fun j => k j d) (pv_oc kp ow d)
    rw [TT d h4 n0, OO d h4 n0, show (fun j => k' j d) = (fun j => k j d) from funext (K d h4 n0)])
  have Y := pv_s4_1 hc (f := fun c => k 4 c) (g := fun c => k' 4 c) (fun d h4 n0 => K d h4 n0 4)
  try simp only at X Y
  have xa : pv_xv (st c) (fun j => k j c) (pv_oc kp ow c) = 0 := by rcases hs with e | e <;> rw [e] <;> simp only [pv_xv]
  have xb : pv_xv (st' c) (fun j => k' j c) (pv_oc kp ow c) = k' 10 c := by rw [hst c, if_pos rfl]; rcases hs with e | e <;> rw [e] <;> simp [pv_xv]
  have z10 : k 10 c = 0 := by rcases hs with e | e <;> rw [e] at L <;> simp only [pv_lc] at L <;> omega
  rw [xa, xb] at X
  refine ⟨LL, ?_, ?_, ?_, ?_, ?_, ?_, h13⟩
  · omega
  · omega
  · omega
  · omega
  · omega
  · exact hz
theorem pv_t_hit {st st' : Nat → Nat} {k : Nat → Nat → Nat} {got need : Nat → Nat} {kp ow sh c : Nat} (h : pv_li st k got need kp ow sh) (hc : c < 4) (hs : st c = 2 ∨ st c = 3) (hst : ∀ d, st' d = if d = c then 3 else st d) : pv_li st' k got need kp ow sh := by
  obtain ⟨hL, hX, hF, hkp, how, hsh, hz, h13o⟩ := h
  have L := hL c hc
  have X := pv_s4_0 (f := fun c => pv_xv (st c) (fun j => k j c) (pv_oc kp ow c)) (g := fun c => pv_xv (st' c) (fun j => k j c) (pv_oc kp ow c)) (fun d _ => by
    show pv_xv (st' d) (fun j => k j d) (pv_oc kp ow d) = pv_xv (st d) (fun j => k j d) (pv_oc kp ow d)
    rw [hst d]
    split
    · next e => subst e; rcases hs with e | e <;> rw [e] <;> simp only [pv_xv]
    · rfl)
  refine ⟨fun d h4 => ?_, by rw [X]; exact hX, hF, hkp, how, hsh, hz, h13o⟩
  rw [hst d]
  split
  · next e => subst e; rcases hs with e | e <;> rw [e] at L <;> simp only [pv_lc] at L ⊢ <;> omega
  · exact hL d h4
set_option maxHeartbeats 4000000 in
theorem pv_t_lv {st st' : Nat → Nat} {k k' : Nat → Nat → Nat} {got need got' need' : Nat → Nat} {kp ow sh c : Nat} (h : pv_li st k got need kp ow sh) (hc : c < 4) (hs : st c = 1 ∨ st c = 2 ∨ st c = 3) (hst : ∀ d, st' d = if d = c then 12 - st c else st d) (hk : ∀ j d, k' j d = k j d + pv_bk j d (st c + 1) 4 c 0) (h13 : ∀ d, k' 13 d ≤ 3 * k' 10 d) : pv_li st' k' got need kp ow sh := by
  obtain ⟨hL, hX, hF, hkp, how, hsh, hz, h13o⟩ := h
  have L := hL c hc
  have hs' : st c ≠ 0 ∧ st c + 1 ≠ 0 ∧ st c + 1 ≠ 1 ∧ (st c + 1 = 2 ∨ st c + 1 = 3 ∨ st c + 1 = 4) := by omega
  generalize hv : st c + 1 = v at hk hs'
  have v5 : v ≠ 8 ∧ v ≠ 5 ∧ v ≠ 6 ∧ v ≠ 7 ∧ v ≠ 9 ∧ v ≠ 10 ∧ v ≠ 11 ∧ v ≠ 0 ∧ v ≠ 1 := by omega
  have K : ∀ d, d < 4 → d ≠ c → ∀ j, k' j d = k j d := by
    intro d h4 n0 j
    have e := hk j d
    rw [pv_bk_0 (show 4 ≠ d by omega) (show c ≠ d by omega)] at e
    omega
  have C0 := hk 0 c
  have C1 := hk 1 c
  have C2 := hk 2 c
  have C3 := hk 3 c
  have C4 := hk 4 c
  have C5 := hk 5 c
  have C6 := hk 6 c
  have C7 := hk 7 c
  have C8 := hk 8 c
  have C9 := hk 9 c
  have C10 := hk 10 c
  have C11 := hk 11 c
  have C12 := hk 12 c
  have C13 := hk 13 c
  simp [pv_bk, v5, hs'.2.2.2] at C0 C1 C2 C3 C4 C5 C6 C7 C8 C9 C10 C11 C12 C13
  have H10 := hk 10 4
  simp [pv_bk, v5] at H10
  have OO : ∀ d, d < 4 → d ≠ c → pv_oc kp ow d = pv_oc kp ow d := by
    intro d h4 n0; rfl
  have SS : ∀ d, d < 4 → d ≠ c → pv_sb sh d = pv_sb sh d := by
    intro d h4 n0; rfl
  have TT : ∀ d, d < 4 → d ≠ c → st' d = st d := by
    intro d h4 n0; rw [hst d, if_neg n0]
  have LLc : pv_lc (st' c) (fun j => k' j c) (got c) (need c) (pv_oc kp ow c) (pv_sb sh c) := by
    rw [hst c, if_pos rfl]
    rcases hs with e | e | e <;> rw [e] at L ⊢ <;> simp [pv_lc] at L ⊢ <;> omega
  have LL : ∀ d, d < 4 → pv_lc (st' d) (fun j => k' j d) (got d) (need d) (pv_oc kp ow d) (pv_sb sh d) := by
    intro d h4
    by_cases n0 : d = c
    · subst n0; exact LLc
    rw [TT d h4 n0, OO d h4 n0, SS d h4 n0, show (fun j => k' j d) = (fun j => k j d) from funext (K d h4 n0)]
    exact hL d h4
  have X := pv_s4_1 hc (f := fun z => pv_xv (st z) (fun j => k j z) (pv_oc kp ow z)) (g := fun z => pv_xv (st' z) (fun j => k' j z) (pv_oc kp ow z)) (fun d h4 n0 => by
    show pv_xv (st' d) (fun j => k' j d) (pv_oc kp ow d) = pv_xv (st d) (fun j => k j d) (pv_oc kp ow d)
    rw [TT d h4 n0, OO d h4 n0, show (fun j => k' j d) = (fun j => k j d) from funext (K d h4 n0)])
  have Y := pv_s4_1 hc (f := fun c => k 4 c) (g := fun c => k' 4 c) (fun d h4 n0 => K d h4 n0 4)
  try simp only at X Y
  have xa : pv_xv (st' c) (fun j => k' j c) (pv_oc kp ow c) = pv_xv (st c) (fun j => k j c) (pv_oc kp ow c) := by rw [hst c, if_pos rfl]; rcases hs with e | e | e <;> rw [e] at L ⊢ <;> simp [pv_lc, pv_xv] at L ⊢ <;> omega
  rw [xa] at X
  refine ⟨LL, ?_, ?_, ?_, ?_, ?_, ?_, h13⟩
  · omega
  · omega
  · omega
  · omega
  · omega
  · exact hz
set_option maxHeartbeats 4000000 in
theorem pv_t_hr0 {st st' : Nat → Nat} {k k' : Nat → Nat → Nat} {got need got' need' : Nat → Nat} {kp ow sh c : Nat} (h : pv_li st k got need kp ow sh) (hc : c < 4) (h0 : kp = 0) (h1 : 1 ≤ k 0 c) (hk : ∀ j d, k' j d + pv_bk j d 0 4 c 0 = k j d + pv_bk j d 10 c c 0) (h13 : ∀ d, k' 13 d ≤ 3 * k' 10 d) : pv_li st k' got need 2 c sh := by
  obtain ⟨hL, hX, hF, hkp, how, hsh, hz, h13o⟩ := h
  have L := hL c hc
  have s4 := pv_lc_rd L h1
  rw [s4] at L
  simp only [pv_lc] at L
  subst h0
  have sz := hz (Or.inl rfl)
  have K : ∀ d, d < 4 → d ≠ c → ∀ j, k' j d = k j d := by
    intro d h4 n0 j
    have e := hk j d
    rw [pv_bk_0 (show 4 ≠ d by omega) (show c ≠ d by omega), pv_bk_0 (show c ≠ d by omega) (show c ≠ d by omega)] at e
    omega
  have C0 := hk 0 c
  have C1 := hk 1 c
  have C2 := hk 2 c
  have C3 := hk 3 c
  have C4 := hk 4 c
  have C5 := hk 5 c
  have C6 := hk 6 c
  have C7 := hk 7 c
  have C8 := hk 8 c
  have C9 := hk 9 c
  have C10 := hk 10 c
  have C11 := hk 11 c
  have C12 := hk 12 c
  have C13 := hk 13 c
  simp [pv_bk, show (4 : Nat) ≠ c by omega] at C0 C1 C2 C3 C4 C5 C6 C7 C8 C9 C10 C11 C12 C13
  have H10 := hk 10 4
  simp [pv_bk, show c ≠ 4 by omega] at H10
  have OO : ∀ d, d < 4 → d ≠ c → pv_oc 2 c d = pv_oc 0 ow d := by
    intro d h4 n0; have : c ≠ d := fun z => n0 z.symm
    simp [pv_oc, this]
  have SS : ∀ d, d < 4 → d ≠ c → pv_sb sh d = pv_sb sh d := by
    intro d h4 n0; rfl
  have TT : ∀ d, d < 4 → d ≠ c → st d = st d := by
    intro d h4 n0; rfl
  have o1 : pv_oc 2 c c = 1 := by simp [pv_oc]
  have LLc : pv_lc (st c) (fun j => k' j c) (got c) (need c) (pv_oc 2 c c) (pv_sb sh c) := by
    rw [s4, o1]
    simp only [pv_lc]
    have := pv_sb_le sh c
    omega
  have LL : ∀ d, d < 4 → pv_lc (st d) (fun j => k' j d) (got d) (need d) (pv_oc 2 c d) (pv_sb sh d) := by
    intro d h4
    by_cases n0 : d = c
    · subst n0; exact LLc
    rw [TT d h4 n0, OO d h4 n0, SS d h4 n0, show (fun j => k' j d) = (fun j => k j d) from funext (K d h4 n0)]
    exact hL d h4
  have X := pv_s4_1 hc (f := fun z => pv_xv (st z) (fun j => k j z) (pv_oc 0 ow z)) (g := fun z => pv_xv (st z) (fun j => k' j z) (pv_oc 2 c z)) (fun d h4 n0 => by
    show pv_xv (st d) (fun j => k' j d) (pv_oc 2 c d) = pv_xv (st d) (fun j => k j d) (pv_oc 0 ow d)
    rw [TT d h4 n0, OO d h4 n0, show (fun j => k' j d) = (fun j => k j d) from funext (K d h4 n0)])
  have Y := pv_s4_1 hc (f := fun c => k 4 c) (g := fun c => k' 4 c) (fun d h4 n0 => K d h4 n0 4)
  try simp only at X Y
  have xa : pv_xv (st c) (fun j => k j c) (pv_oc 0 ow c) = k 11 c := by rw [s4]; simp only [pv_xv]
  have xb : pv_xv (st c) (fun j => k' j c) (pv_oc 2 c c) = k' 11 c := by rw [s4]; simp only [pv_xv]
  rw [xa, xb] at X
  have q1 : pv_k1 0 = 1 := rfl
  have q2 : pv_k1 2 = 0 := rfl
  have q3 : pv_k1 3 = 0 := rfl
  have q4 : pv_k3 0 = 0 := rfl
  have q5 : pv_k3 2 = 0 := rfl
  have q6 : pv_k3 3 = 1 := rfl
  refine ⟨LL, ?_, ?_, ?_, ?_, ?_, ?_, h13⟩
  · omega
  · omega
  · omega
  · omega
  · omega
  · intro _; exact sz
set_option maxHeartbeats 4000000 in
theorem pv_t_hr1 {st st' : Nat → Nat} {k k' : Nat → Nat → Nat} {got need got' need' : Nat → Nat} {kp ow sh c sh' : Nat} (h : pv_li st k got need kp ow sh) (hc : c < 4) (h0 : kp = 1) (h1 : 1 ≤ k 0 c) (hb : ∀ d, d < 4 → pv_sb sh' d = if d = c then 1 else pv_sb sh d) (hsh' : sh' < 16) (hk : ∀ j d, k' j d + pv_bk j d 0 4 c 0 = k j d + pv_bk j d 9 c c 0) (h13 : ∀ d, k' 13 d ≤ 3 * k' 10 d) : pv_li st k' got need kp ow sh' := by
  obtain ⟨hL, hX, hF, hkp, how, hsh, hz, h13o⟩ := h
  have L := hL c hc
  have s4 := pv_lc_rd L h1
  rw [s4] at L
  simp only [pv_lc] at L
  have K : ∀ d, d < 4 → d ≠ c → ∀ j, k' j d = k j d := by
    intro d h4 n0 j
    have e := hk j d
    rw [pv_bk_0 (show 4 ≠ d by omega) (show c ≠ d by omega), pv_bk_0 (show c ≠ d by omega) (show c ≠ d by omega)] at e
    omega
  have C0 := hk 0 c
  have C1 := hk 1 c
  have C2 := hk 2 c
  have C3 := hk 3 c
  have C4 := hk 4 c
  have C5 := hk 5 c
  have C6 := hk 6 c
  have C7 := hk 7 c
  have C8 := hk 8 c
  have C9 := hk 9 c
  have C10 := hk 10 c
  have C11 := hk 11 c
  have C12 := hk 12 c
  have C13 := hk 13 c
  simp [pv_bk, show (4 : Nat) ≠ c by omega] at C0 C1 C2 C3 C4 C5 C6 C7 C8 C9 C10 C11 C12 C13
  have H10 := hk 10 4
  simp [pv_bk, show c ≠ 4 by omega] at H10
  have OO : ∀ d, d < 4 → d ≠ c → pv_oc kp ow d = pv_oc kp ow d := by
    intro d h4 n0; rfl
  have SS : ∀ d, d < 4 → d ≠ c → pv_sb sh' d = pv_sb sh d := by
    intro d h4 n0; rw [hb d h4, if_neg n0]
  have TT : ∀ d, d < 4 → d ≠ c → st d = st d := by
    intro d h4 n0; rfl
  have LLc : pv_lc (st c) (fun j => k' j c) (got c) (need c) (pv_oc kp ow c) (pv_sb sh' c) := by
    rw [s4, hb c hc, if_pos rfl]
    simp only [pv_lc]
    omega
  have LL : ∀ d, d < 4 → pv_lc (st d) (fun j => k' j d) (got d) (need d) (pv_oc kp ow d) (pv_sb sh' d) := by
    intro d h4
    by_cases n0 : d = c
    · subst n0; exact LLc
    rw [TT d h4 n0, OO d h4 n0, SS d h4 n0, show (fun j => k' j d) = (fun j => k j d) from funext (K d h4 n0)]
    exact hL d h4
  have X := pv_s4_1 hc (f := fun z => pv_xv (st z) (fun j => k j z) (pv_oc kp ow z)) (g := fun z => pv_xv (st z) (fun j => k' j z) (pv_oc kp ow z)) (fun d h4 n0 => by
    show pv_xv (st d) (fun j => k' j d) (pv_oc kp ow d) = pv_xv (st d) (fun j => k j d) (pv_oc kp ow d)
    rw [TT d h4 n0, OO d h4 n0, show (fun j => k' j d) = (fun j => k j d) from funext (K d h4 n0)])
  have Y := pv_s4_1 hc (f := fun c => k 4 c) (g := fun c => k' 4 c) (fun d h4 n0 => K d h4 n0 4)
  try simp only at X Y
  have xa : pv_xv (st c) (fun j => k j c) (pv_oc kp ow c) = k 11 c := by rw [s4]; simp only [pv_xv]
  have xb : pv_xv (st c) (fun j => k' j c) (pv_oc kp ow c) = k' 11 c := by rw [s4]; simp only [pv_xv]
  rw [xa, xb] at X
  refine ⟨LL, ?_, ?_, ?_, ?_, ?_, ?_, h13⟩
  · omega
  · omega
  · omega
  · omega
  · omega
  · intro z; omega
set_option maxHeartbeats 4000000 in
theorem pv_t_hr2 {st st' : Nat → Nat} {k k' : Nat → Nat → Nat} {got need got' need' : Nat → Nat} {kp ow sh c r sh' : Nat} (h : pv_li st k got need kp ow sh) (hr : r < 4) (h0 : kp = 2) (ho : ow = c) (h1 : 1 ≤ k 0 r) (hb : ∀ d, d < 4 → pv_sb sh' d = if d = c ∨ d = r then 1 else 0) (hsh' : sh' < 16) (hk : ∀ j d, k' j d + pv_bk j d 0 4 r 0 = k j d + pv_bk j d 5 c r 0) (h13 : ∀ d, k' 13 d ≤ 3 * k' 10 d) : pv_li st k' got need 3 c sh' := by
  obtain ⟨hL, hX, hF, hkp, how, hsh, hz, h13o⟩ := h
  subst ho
  have hc := how
  generalize ow = c at *
  subst h0
  have sz := hz (Or.inr rfl)
  have o1 : pv_oc 2 c c = 1 := by simp [pv_oc]
  have o3 : ∀ d, pv_oc 3 c d = 0 := fun d => by simp [pv_oc]
  have Lr := hL r hr
  have s4 := pv_lc_rd Lr h1
  rw [s4] at Lr
  simp only [pv_lc] at Lr
  have hcr : c ≠ r := by
    intro e; subst e; omega
  have sz0 : ∀ d, pv_sb sh d = 0 := fun d => by rw [sz]; simp [pv_sb]
  have L := hL c hc
  have b12 := pv_lc_le L
  rw [o1, sz0 c] at L
  have K : ∀ d, d < 4 → d ≠ c → d ≠ r → ∀ j, k' j d = k j d := by
    intro d h4 n0 n1 j
    have e := hk j d
    rw [pv_bk_0 (show 4 ≠ d by omega) (show r ≠ d by omega), pv_bk_0 (show c ≠ d by omega) (show r ≠ d by omega)] at e
    omega
  have C0 := hk 0 c
  have C1 := hk 1 c
  have C2 := hk 2 c
  have C3 := hk 3 c
  have C4 := hk 4 c
  have C5 := hk 5 c
  have C6 := hk 6 c
  have C7 := hk 7 c
  have C8 := hk 8 c
  have C9 := hk 9 c
  have C10 := hk 10 c
  have C11 := hk 11 c
  have C12 := hk 12 c
  have C13 := hk 13 c
  simp [pv_bk, hcr, hcr.symm, show (4 : Nat) ≠ c by omega] at C0 C1 C2 C3 C4 C5 C6 C7 C8 C9 C10 C11 C12 C13
  have R0 := hk 0 r
  have R1 := hk 1 r
  have R2 := hk 2 r
  have R3 := hk 3 r
  have R4 := hk 4 r
  have R5 := hk 5 r
  have R6 := hk 6 r
  have R7 := hk 7 r
  have R8 := hk 8 r
  have R9 := hk 9 r
  have R10 := hk 10 r
  have R11 := hk 11 r
  have R12 := hk 12 r
  have R13 := hk 13 r
  simp [pv_bk, hcr, hcr.symm, show (4 : Nat) ≠ r by omega] at R0 R1 R2 R3 R4 R5 R6 R7 R8 R9 R10 R11 R12 R13
  have H10 := hk 10 4
  simp [pv_bk, show c ≠ 4 by omega, show r ≠ 4 by omega] at H10
  have OO : ∀ d, d < 4 → d ≠ c → d ≠ r → pv_oc 3 c d = pv_oc 2 c d := by
    intro d h4 n0 n1; have n0' : c ≠ d := fun z => n0 z.symm
    simp [pv_oc, n0']
  have SS : ∀ d, d < 4 → d ≠ c → d ≠ r → pv_sb sh' d = pv_sb sh d := by
    intro d h4 n0 n1; rw [hb d h4, if_neg (by omega), sz0]
  have TT : ∀ d, d < 4 → d ≠ c → d ≠ r → st d = st d := by
    intro d h4 n0 n1; rfl
  have LLc : pv_lc (st c) (fun j => k' j c) (got c) (need c) (pv_oc 3 c c) (pv_sb sh' c) := by
    rw [o3, hb c hc, if_pos (Or.inl rfl)]
    unfold pv_lc at L ⊢
    split at L <;> first | exact L.elim | ((try dsimp only at *) ; omega)
  have LLr : pv_lc (st r) (fun j => k' j r) (got r) (need r) (pv_oc 3 c r) (pv_sb sh' r) := by
    rw [s4, o3, hb r hr, if_pos (Or.inr rfl)]
    simp only [pv_lc]
    have := pv_oc_le 2 c r
    omega
  have LL : ∀ d, d < 4 → pv_lc (st d) (fun j => k' j d) (got d) (need d) (pv_oc 3 c d) (pv_sb sh' d) := by
    intro d h4
    by_cases n0 : d = c
    · subst n0; exact LLc
    by_cases n1 : d = r
    · subst n1; exact LLr
    rw [TT d h4 n0 n1, OO d h4 n0 n1, SS d h4 n0 n1, show (fun j => k' j d) = (fun j => k j d) from funext (K d h4 n0 n1)]
    exact hL d h4
  have X := pv_s4_2 hc hr hcr (f := fun z => pv_xv (st z) (fun j => k j z) (pv_oc 2 c z)) (g := fun z => pv_xv (st z) (fun j => k' j z) (pv_oc 3 c z)) (fun d h4 n0 n1 => by
    show pv_xv (st d) (fun j => k' j d) (pv_oc 3 c d) = pv_xv (st d) (fun j => k j d) (pv_oc 2 c d)
    rw [TT d h4 n0 n1, OO d h4 n0 n1, show (fun j => k' j d) = (fun j => k j d) from funext (K d h4 n0 n1)])
  have Y := pv_s4_2 hc hr hcr (f := fun c => k 4 c) (g := fun c => k' 4 c) (fun d h4 n0 n1 => K d h4 n0 n1 4)
  try simp only at X Y
  have xa : pv_xv (st r) (fun j => k j r) (pv_oc 2 c r) = k 11 r := by rw [s4]; simp only [pv_xv]
  have xb : pv_xv (st r) (fun j => k' j r) (pv_oc 3 c r) = k' 11 r := by rw [s4]; simp only [pv_xv]
  have xc : pv_xv (st c) (fun j => k' j c) (pv_oc 3 c c) = pv_xv (st c) (fun j => k j c) (pv_oc 2 c c) := by
    rw [o1, o3]; unfold pv_xv; unfold pv_lc at L; split <;> simp only at * <;> omega
  rw [xa, xb, xc] at X
  have q1 : pv_k1 0 = 1 := rfl
  have q2 : pv_k1 2 = 0 := rfl
  have q3 : pv_k1 3 = 0 := rfl
  have q4 : pv_k3 0 = 0 := rfl
  have q5 : pv_k3 2 = 0 := rfl
  have q6 : pv_k3 3 = 1 := rfl
  refine ⟨LL, ?_, ?_, ?_, ?_, ?_, ?_, h13⟩
  · omega
  · omega
  · omega
  · omega
  · omega
  · intro z; omega
theorem pv_bk_9 {j d rq n : Nat} (h : d < 4) : pv_bk j d 9 4 rq n = 0 := by
  have : 4 ≠ d := by omega
  unfold pv_bk
  split <;> simp [this]
set_option maxHeartbeats 4000000 in
theorem pv_t_hw2 {st st' : Nat → Nat} {k k' : Nat → Nat → Nat} {got need got' need' : Nat → Nat} {kp ow sh c r : Nat} (h : pv_li st k got need kp ow sh) (hr : r < 4) (h0 : kp = 2) (ho : ow = c) (h1 : 1 ≤ k 1 r) (hk : ∀ j d, k' j d + pv_bk j d 1 4 r 0 = k j d + pv_bk j d 6 c r 0) (h13 : ∀ d, k' 13 d ≤ 3 * k' 10 d) : pv_li st k' got need 2 r sh := by
  obtain ⟨hL, hX, hF, hkp, how, hsh, hz, h13o⟩ := h
  subst ho
  have hc := how
  generalize ow = c at *
  subst h0
  have sz := hz (Or.inr rfl)
  have o1 : pv_oc 2 c c = 1 := by simp [pv_oc]
  have o2 : pv_oc 2 r r = 1 := by simp [pv_oc]
  have Lr := hL r hr
  have s4 := pv_lc_wr Lr h1
  have hcr : c ≠ r := by
    intro e; subst e; rcases s4 with e | e <;> rw [e, o1] at Lr <;> simp only [pv_lc] at Lr <;> omega
  have o3 : pv_oc 2 r c = 0 := by simp [pv_oc, hcr.symm]
  have o4 : pv_oc 2 c r = 0 := by simp [pv_oc, hcr]
  have sz0 : ∀ d, pv_sb sh d = 0 := fun d => by rw [sz]; simp [pv_sb]
  have L := hL c hc
  rw [o1, sz0 c] at L
  rw [o4, sz0 r] at Lr
  have K : ∀ d, d < 4 → d ≠ c → d ≠ r → ∀ j, k' j d = k j d := by
    intro d h4 n0 n1 j
    have e := hk j d
    rw [pv_bk_0 (show 4 ≠ d by omega) (show r ≠ d by omega), pv_bk_0 (show c ≠ d by omega) (show r ≠ d by omega)] at e
    omega
  have C0 := hk 0 c
  have C1 := hk 1 c
  have C2 := hk 2 c
  have C3 := hk 3 c
  have C4 := hk 4 c
  have C5 := hk 5 c
  have C6 := hk 6 c
  have C7 := hk 7 c
  have C8 := hk 8 c
  have C9 := hk 9 c
  have C10 := hk 10 c
  have C11 := hk 11 c
  have C12 := hk 12 c
  have C13 := hk 13 c
  simp [pv_bk, hcr, hcr.symm, show (4 : Nat) ≠ c by omega] at C0 C1 C2 C3 C4 C5 C6 C7 C8 C9 C10 C11 C12 C13
  have R0 := hk 0 r
  have R1 := hk 1 r
  have R2 := hk 2 r
  have R3 := hk 3 r
  have R4 := hk 4 r
  have R5 := hk 5 r
  have R6 := hk 6 r
  have R7 := hk 7 r
  have R8 := hk 8 r
  have R9 := hk 9 r
  have R10 := hk 10 r
  have R11 := hk 11 r
  have R12 := hk 12 r
  have R13 := hk 13 r
  simp [pv_bk, hcr, hcr.symm, show (4 : Nat) ≠ r by omega] at R0 R1 R2 R3 R4 R5 R6 R7 R8 R9 R10 R11 R12 R13
  have H10 := hk 10 4
  simp [pv_bk, show c ≠ 4 by omega, show r ≠ 4 by omega] at H10
  have OO : ∀ d, d < 4 → d ≠ c → d ≠ r → pv_oc 2 r d = pv_oc 2 c d := by
    intro d h4 n0 n1; have n0' : c ≠ d := fun z => n0 z.symm
    have n1' : r ≠ d := fun z => n1 z.symm
    simp [pv_oc, n0', n1']
  have SS : ∀ d, d < 4 → d ≠ c → d ≠ r → pv_sb sh d = pv_sb sh d := by
    intro d h4 n0 n1; rfl
  have TT : ∀ d, d < 4 → d ≠ c → d ≠ r → st d = st d := by
    intro d h4 n0 n1; rfl
  have LLc : pv_lc (st c) (fun j => k' j c) (got c) (need c) (pv_oc 2 r c) (pv_sb sh c) := by
    rw [o3, sz0]
    unfold pv_lc at L ⊢
    split at L <;> first | exact L.elim | ((try dsimp only at *) ; omega)
  have LLr : pv_lc (st r) (fun j => k' j r) (got r) (need r) (pv_oc 2 r r) (pv_sb sh r) := by
    rw [o2, sz0]
    rcases s4 with e | e <;> rw [e] at Lr ⊢ <;> simp only [pv_lc] at Lr ⊢ <;> omega
  have LL : ∀ d, d < 4 → pv_lc (st d) (fun j => k' j d) (got d) (need d) (pv_oc 2 r d) (pv_sb sh d) := by
    intro d h4
    by_cases n0 : d = c
    · subst n0; exact LLc
    by_cases n1 : d = r
    · subst n1; exact LLr
    rw [TT d h4 n0 n1, OO d h4 n0 n1, SS d h4 n0 n1, show (fun j => k' j d) = (fun j => k j d) from funext (K d h4 n0 n1)]
    exact hL d h4
  have X := pv_s4_2 hc hr hcr (f := fun z => pv_xv (st z) (fun j => k j z) (pv_oc 2 c z)) (g := fun z => pv_xv (st z) (fun j => k' j z) (pv_oc 2 r z)) (fun d h4 n0 n1 => by
    show pv_xv (st d) (fun j => k' j d) (pv_oc 2 r d) = pv_xv (st d) (fun j => k j d) (pv_oc 2 c d)
    rw [TT d h4 n0 n1, OO d h4 n0 n1, show (fun j => k' j d) = (fun j => k j d) from funext (K d h4 n0 n1)])
  have Y := pv_s4_2 hc hr hcr (f := fun c => k 4 c) (g := fun c => k' 4 c) (fun d h4 n0 n1 => K d h4 n0 n1 4)
  try simp only at X Y
  have xa : pv_xv (st r) (fun j => k j r) (pv_oc 2 c r) = k 10 r := by rcases s4 with e | e <;> rw [e] <;> simp only [pv_xv]
  have xb : pv_xv (st r) (fun j => k' j r) (pv_oc 2 r r) = k' 10 r := by rcases s4 with e | e <;> rw [e] <;> simp only [pv_xv]
  have xc : pv_xv (st c) (fun j => k' j c) (pv_oc 2 r c) = pv_xv (st c) (fun j => k j c) (pv_oc 2 c c) := by
    rw [o1, o3]; unfold pv_xv; unfold pv_lc at L; split <;> simp only at * <;> omega
  rw [xa, xb, xc] at X
  refine ⟨LL, ?_, ?_, ?_, ?_, ?_, ?_, h13⟩
  · omega
  · omega
  · omega
  · omega
  · omega
  · intro _; exact sz
set_option maxHeartbeats 4000000 in
theorem pv_t_hw1 {st : Nat → Nat} {k k' : Nat → Nat → Nat} {got need : Nat → Nat} {kp ow sh c n : Nat} (h : pv_li st k got need kp ow sh) (hc : c < 4) (h0 : kp ≤ 1) (h1 : 1 ≤ k 1 c) (hfr : ∀ d, d < 4 → 1 ≤ k 6 d → ∃ e, e < 4 ∧ 1 ≤ k 4 e)
    (ho : ∀ d, d < 4 → d ≠ c → ∀ j, j ≠ 8 → k' j d = k j d) (h8 : ∀ d, d < 4 → d ≠ c → k' 8 d = k 8 d + pv_sb sh d) (h4 : k' 10 4 = k 10 4)
    (hk : ∀ j, k' j c + pv_bk j c 1 4 c 0 = k j c + pv_bk j c 9 c c n + if j = 9 then n else 0) (h13 : ∀ d, k' 13 d ≤ 3 * k' 10 d) : pv_li st k' got need 2 c 0 := by
  obtain ⟨hL, hX, hF, hkp, how, hsh, hz, h13o⟩ := h
  have L := hL c hc
  have s5 := pv_lc_wr L h1
  have hF0 : pv_s4 (fun c => k 4 c) + k 10 4 = 0 := by rw [hF]; simp [pv_k3]; omega
  have f0 : ∀ d, d < 4 → k 4 d = 0 := fun d hd => by
    have := pv_s4_le (f := fun c => k 4 c) hd
    try simp only at this
    omega
  have f6 : ∀ d, d < 4 → k 6 d = 0 := fun d hd => by
    by_cases z : k 6 d = 0
    · exact z
    · obtain ⟨e, he, h2⟩ := hfr d hd (by omega)
      have := f0 e he
      omega
  have o0 : ∀ d, pv_oc kp ow d = 0 := fun d => by
    have : kp ≠ 2 := by omega
    simp [pv_oc, this]
  have oo : ∀ d, d ≠ c → pv_oc 2 c d = 0 := fun d hd => by simp [pv_oc, Ne.symm hd]
  have oc1 : pv_oc 2 c c = 1 := by simp [pv_oc]
  have sz : ∀ d, pv_sb 0 d = 0 := fun d => by simp [pv_sb]
  have hk0 := hk 0; have hk1 := hk 1; have hk2 := hk 2; have hk3 := hk 3; have hk4 := hk 4; have hk5 := hk 5; have hk6 := hk 6; have hk7 := hk 7; have hk8 := hk 8; have hk9 := hk 9; have hk10 := hk 10; have hk11 := hk 11; have hk12 := hk 12; have hk13 := hk 13
  simp [pv_bk, show (4 : Nat) ≠ c by omega] at hk0 hk1 hk2 hk3 hk4 hk5 hk6 hk7 hk8 hk9 hk10 hk11 hk12 hk13
  have h13c := h13o c
  have LLc : pv_lc (st c) (fun j => k' j c) (got c) (need c) (pv_oc 2 c c) (pv_sb 0 c) := by
    rw [oc1, sz]
    rw [o0] at L
    rcases s5 with e | e <;> rw [e] at L ⊢ <;> simp only [pv_lc] at L ⊢ <;> omega
  have LL : ∀ d, d < 4 → pv_lc (st d) (fun j => k' j d) (got d) (need d) (pv_oc 2 c d) (pv_sb 0 d) := by
    intro d hd
    by_cases n : d = c
    · subst n; exact LLc
    have Ld := hL d hd
    rw [oo d n, sz]
    rw [o0] at Ld
    have a0 := ho d hd n 0 (by omega); have a1 := ho d hd n 1 (by omega); have a2 := ho d hd n 2 (by omega); have a3 := ho d hd n 3 (by omega); have a4 := ho d hd n 4 (by omega); have a5 := ho d hd n 5 (by omega); have a6 := ho d hd n 6 (by omega); have a7 := ho d hd n 7 (by omega); have a9 := ho d hd n 9 (by omega); have a10 := ho d hd n 10 (by omega); have a11 := ho d hd n 11 (by omega); have a12 := ho d hd n 12 (by omega); have a13 := ho d hd n 13 (by omega)
    have a8 := h8 d hd n
    have f4 := f0 d hd
    have f6 := f6 d hd
    unfold pv_lc at Ld ⊢
    split at Ld <;> first | exact Ld.elim | ((try dsimp only at *) ; omega)
  have X := pv_s4_1 hc (f := fun c => pv_xv (st c) (fun j => k j c) (pv_oc kp ow c)) (g := fun d => pv_xv (st d) (fun j => k' j d) (pv_oc 2 c d)) (fun d hd n => by
    show pv_xv (st d) (fun j => k' j d) (pv_oc 2 c d) = pv_xv (st d) (fun j => k j d) (pv_oc kp ow d)
    have a4 := ho d hd n 4 (by omega); have a5 := ho d hd n 5 (by omega); have a10 := ho d hd n 10 (by omega); have a11 := ho d hd n 11 (by omega)
    rw [oo d n, o0]
    simp only [pv_xv, a4, a5, a10, a11])
  have Y := pv_s4_1 hc (f := fun c => k 4 c) (g := fun c => k' 4 c) (fun d hd n => ho d hd n 4 (by omega))
  try simp only at X Y
  have xa : pv_xv (st c) (fun j => k j c) (pv_oc kp ow c) = k 10 c := by rcases s5 with e | e <;> rw [e] <;> simp only [pv_xv]
  have xb : pv_xv (st c) (fun j => k' j c) (pv_oc 2 c c) = k' 10 c := by rcases s5 with e | e <;> rw [e] <;> simp only [pv_xv]
  have z10 : k 10 c = 0 := by rcases s5 with e | e <;> rw [e] at L <;> simp only [pv_lc] at L <;> omega
  rw [xa, xb] at X
  have k1 : pv_k1 kp = 1 := by unfold pv_k1; rw [if_pos h0]
  refine ⟨LL, ?_, ?_, ?_, ?_, ?_, ?_, h13⟩
  · have q2 : pv_k1 2 = 0 := rfl
    omega
  · have q5 : pv_k3 2 = 0 := rfl
    omega
  · omega
  · omega
  · omega
  · intro _; rfl
set_option maxHeartbeats 4000000 in
theorem pv_t_hlo {st st' : Nat → Nat} {k k' : Nat → Nat → Nat} {got need got' need' : Nat → Nat} {kp ow sh c v : Nat} (h : pv_li st k got need kp ow sh) (hc : c < 4) (h0 : kp = 2) (ho : ow = c) (h1 : 1 ≤ k 2 c) (hv : v = 2 ∨ v = 3 ∨ v = 4) (hk : ∀ j d, k' j d + pv_bk j d v 4 c 0 = k j d + pv_bk j d 8 c c 0) (h13 : ∀ d, k' 13 d ≤ 3 * k' 10 d) : pv_li st k' got need 0 ow sh := by
  obtain ⟨hL, hX, hF, hkp, how, hsh, hz, h13o⟩ := h
  subst h0
  have sz := hz (Or.inr rfl)
  have o1 : pv_oc 2 ow c = 1 := by simp [pv_oc, ho]
  have o0 : ∀ d, pv_oc 0 ow d = 0 := fun d => by simp [pv_oc]
  have L := hL c hc
  have s9 := pv_lc_lv L h1
  rw [o1] at L
  have v5 : v ≠ 8 ∧ v ≠ 5 ∧ v ≠ 6 ∧ v ≠ 7 ∧ v ≠ 9 ∧ v ≠ 10 ∧ v ≠ 11 ∧ v ≠ 0 ∧ v ≠ 1 := by omega
  have s9' : st c = 9 ∨ st c = 10 := by
    rcases s9 with e | e | e | e <;> rw [e] at L <;> simp only [pv_lc] at L <;> omega
  have K : ∀ d, d < 4 → d ≠ c → ∀ j, k' j d = k j d := by
    intro d h4 n0 j
    have e := hk j d
    rw [pv_bk_0 (show 4 ≠ d by omega) (show c ≠ d by omega), pv_bk_0 (show c ≠ d by omega) (show c ≠ d by omega)] at e
    omega
  have C0 := hk 0 c
  have C1 := hk 1 c
  have C2 := hk 2 c
  have C3 := hk 3 c
  have C4 := hk 4 c
  have C5 := hk 5 c
  have C6 := hk 6 c
  have C7 := hk 7 c
  have C8 := hk 8 c
  have C9 := hk 9 c
  have C10 := hk 10 c
  have C11 := hk 11 c
  have C12 := hk 12 c
  have C13 := hk 13 c
  simp [pv_bk, v5, hv, show (4 : Nat) ≠ c by omega] at C0 C1 C2 C3 C4 C5 C6 C7 C8 C9 C10 C11 C12 C13
  have H10 := hk 10 4
  simp [pv_bk, v5, show c ≠ 4 by omega] at H10
  have OO : ∀ d, d < 4 → d ≠ c → pv_oc 0 ow d = pv_oc 2 ow d := by
    intro d h4 n0; have n0' : ow ≠ d := fun z => n0 (z.symm.trans ho)
    simp [pv_oc, n0']
  have SS : ∀ d, d < 4 → d ≠ c → pv_sb sh d = pv_sb sh d := by
    intro d h4 n0; rfl
  have TT : ∀ d, d < 4 → d ≠ c → st d = st d := by
    intro d h4 n0; rfl
  have LLc : pv_lc (st c) (fun j => k' j c) (got c) (need c) (pv_oc 0 ow c) (pv_sb sh c) := by
    rw [o0]
    rcases s9' with e | e <;> rw [e] at L ⊢ <;> simp only [pv_lc] at L ⊢ <;> omega
  have LL : ∀ d, d < 4 → pv_lc (st d) (fun j => k' j d) (got d) (need d) (pv_oc 0 ow d) (pv_sb sh d) := by
    intro d h4
    by_cases n0 : d = c
    · subst n0; exact LLc
    rw [TT d h4 n0, OO d h4 n0, SS d h4 n0, show (fun j => k' j d) = (fun j => k j d) from funext (K d h4 n0)]
    exact hL d h4
  have X := pv_s4_1 hc (f := fun z => pv_xv (st z) (fun j => k j z) (pv_oc 2 ow z)) (g := fun z => pv_xv (st z) (fun j => k' j z) (pv_oc 0 ow z)) (fun d h4 n0 => by
    show pv_xv (st d) (fun j => k' j d) (pv_oc 0 ow d) = pv_xv (st d) (fun j => k j d) (pv_oc 2 ow d)
    rw [TT d h4 n0, OO d h4 n0, show (fun j => k' j d) = (fun j => k j d) from funext (K d h4 n0)])
  have Y := pv_s4_1 hc (f := fun c => k 4 c) (g := fun c => k' 4 c) (fun d h4 n0 => K d h4 n0 4)
  try simp only at X Y
  have xa : pv_xv (st c) (fun j => k j c) (pv_oc 2 ow c) = 1 := by rw [o1]; rcases s9' with e | e <;> rw [e] at L ⊢ <;> simp only [pv_lc, pv_xv] at L ⊢ <;> omega
  have xb : pv_xv (st c) (fun j => k' j c) (pv_oc 0 ow c) = 0 := by rw [o0]; rcases s9' with e | e <;> rw [e] at L ⊢ <;> simp only [pv_lc, pv_xv] at L ⊢ <;> omega
  rw [xa, xb] at X
  have q1 : pv_k1 0 = 1 := rfl
  have q2 : pv_k1 2 = 0 := rfl
  have q3 : pv_k1 3 = 0 := rfl
  have q4 : pv_k3 0 = 0 := rfl
  have q5 : pv_k3 2 = 0 := rfl
  have q6 : pv_k3 3 = 1 := rfl
  refine ⟨LL, ?_, ?_, ?_, ?_, ?_, ?_, h13⟩
  · omega
  · omega
  · omega
  · omega
  · omega
  · intro _; exact sz
set_option maxHeartbeats 4000000 in
theorem pv_t_hln {st st' : Nat → Nat} {k k' : Nat → Nat → Nat} {got need got' need' : Nat → Nat} {kp ow sh c v kp' sh' : Nat} (h : pv_li st k got need kp ow sh) (hc : c < 4) (ho : ¬ (kp = 2 ∧ ow = c)) (h1 : 1 ≤ k 2 c) (hv : v = 2 ∨ v = 3 ∨ v = 4) (hkp' : kp' = if kp = 1 ∧ sh' = 0 then 0 else kp) (hb : ∀ d, d < 4 → pv_sb sh' d = if d = c then 0 else pv_sb sh d) (hsh' : sh' < 16) (hs0 : sh = 0 → sh' = 0) (hk : ∀ j d, k' j d + pv_bk j d v 4 c 0 = k j d + pv_bk j d 8 c c 0) (h13 : ∀ d, k' 13 d ≤ 3 * k' 10 d) : pv_li st k' got need kp' ow sh' := by
  obtain ⟨hL, hX, hF, hkp, how, hsh, hz, h13o⟩ := h
  have oe : ∀ d, pv_oc kp' ow d = pv_oc kp ow d := fun d => by
    rw [hkp']; simp only [pv_oc]; split <;> simp_all
  have o0 : pv_oc kp ow c = 0 := by simp only [pv_oc]; rw [if_neg ho]
  have L := hL c hc
  have s9 := pv_lc_lv L h1
  rw [o0] at L
  have v5 : v ≠ 8 ∧ v ≠ 5 ∧ v ≠ 6 ∧ v ≠ 7 ∧ v ≠ 9 ∧ v ≠ 10 ∧ v ≠ 11 ∧ v ≠ 0 ∧ v ≠ 1 := by omega
  have k1e : pv_k1 kp' = pv_k1 kp := by
    rw [hkp']; simp only [pv_k1]; split <;> simp_all
  have k3e : pv_k3 kp' = pv_k3 kp := by
    rw [hkp']; simp only [pv_k3]; split <;> simp_all
  have K : ∀ d, d < 4 → d ≠ c → ∀ j, k' j d = k j d := by
    intro d h4 n0 j
    have e := hk j d
    rw [pv_bk_0 (show 4 ≠ d by omega) (show c ≠ d by omega), pv_bk_0 (show c ≠ d by omega) (show c ≠ d by omega)] at e
    omega
  have C0 := hk 0 c
  have C1 := hk 1 c
  have C2 := hk 2 c
  have C3 := hk 3 c
  have C4 := hk 4 c
  have C5 := hk 5 c
  have C6 := hk 6 c
  have C7 := hk 7 c
  have C8 := hk 8 c
  have C9 := hk 9 c
  have C10 := hk 10 c
  have C11 := hk 11 c
  have C12 := hk 12 c
  have C13 := hk 13 c
  simp [pv_bk, v5, hv, show (4 : Nat) ≠ c by omega] at C0 C1 C2 C3 C4 C5 C6 C7 C8 C9 C10 C11 C12 C13
  have H10 := hk 10 4
  simp [pv_bk, v5, show c ≠ 4 by omega] at H10
  have OO : ∀ d, d < 4 → d ≠ c → pv_oc kp' ow d = pv_oc kp ow d := by
    intro d h4 n0; exact oe d
  have SS : ∀ d, d < 4 → d ≠ c → pv_sb sh' d = pv_sb sh d := by
    intro d h4 n0; rw [hb d h4, if_neg n0]
  have TT : ∀ d, d < 4 → d ≠ c → st d = st d := by
    intro d h4 n0; rfl
  have LLc : pv_lc (st c) (fun j => k' j c) (got c) (need c) (pv_oc kp' ow c) (pv_sb sh' c) := by
    rw [oe, o0, hb c hc, if_pos rfl]
    rcases s9 with e | e | e | e <;> rw [e] at L ⊢ <;> simp only [pv_lc, and_true, true_and] at L ⊢ <;> omega
  have LL : ∀ d, d < 4 → pv_lc (st d) (fun j => k' j d) (got d) (need d) (pv_oc kp' ow d) (pv_sb sh' d) := by
    intro d h4
    by_cases n0 : d = c
    · subst n0; exact LLc
    rw [TT d h4 n0, OO d h4 n0, SS d h4 n0, show (fun j => k' j d) = (fun j => k j d) from funext (K d h4 n0)]
    exact hL d h4
  have X := pv_s4_1 hc (f := fun z => pv_xv (st z) (fun j => k j z) (pv_oc kp ow z)) (g := fun z => pv_xv (st z) (fun j => k' j z) (pv_oc kp' ow z)) (fun d h4 n0 => by
    show pv_xv (st d) (fun j => k' j d) (pv_oc kp' ow d) = pv_xv (st d) (fun j => k j d) (pv_oc kp ow d)
    rw [TT d h4 n0, OO d h4 n0, show (fun j => k' j d) = (fun j => k j d) from funext (K d h4 n0)])
  have Y := pv_s4_1 hc (f := fun c => k 4 c) (g := fun c => k' 4 c) (fun d h4 n0 => K d h4 n0 4)
  try simp only at X Y
  have xa : pv_xv (st c) (fun j => k' j c) (pv_oc kp' ow c) = pv_xv (st c) (fun j => k j c) (pv_oc kp ow c) := by rw [oe]; simp only [pv_xv, C4, C5, C10, C11]
  rw [xa] at X
  refine ⟨LL, ?_, ?_, ?_, ?_, ?_, ?_, h13⟩
  · omega
  · omega
  · rw [hkp']; split <;> omega
  · omega
  · omega
  · intro z; rw [hkp'] at z; split at z
    · next e => exact e.2
    · exact hs0 (hz z)
set_option maxHeartbeats 4000000 in
theorem pv_t_hda {st : Nat → Nat} {k k' : Nat → Nat → Nat} {got need : Nat → Nat} {kp ow sh r n kp' : Nat} (h : pv_li st k got need kp ow sh) (h1 : 1 ≤ k 10 4) (hkp' : kp' = if sh = 0 then 0 else 1) (hk : ∀ j d, k' j d + pv_bk j d 9 4 r n = k j d) (h13 : ∀ d, k' 13 d ≤ 3 * k' 10 d) : pv_li st k' got need kp' ow sh := by
  obtain ⟨hL, hX, hF, hkp, how, hsh, hz, h13o⟩ := h
  have k3 : kp = 3 := by
    by_cases e : kp = 3
    · exact e
    · simp [pv_k3, e] at hF; omega
  subst k3
  have K : ∀ d, d < 4 → ∀ j, k' j d = k j d := fun d hd j => by
    have e := hk j d
    rw [pv_bk_9 hd] at e
    omega
  have H10 := hk 10 4
  simp [pv_bk] at H10
  have oe : ∀ d, pv_oc kp' ow d = pv_oc 3 ow d := fun d => by
    rw [hkp']; simp only [pv_oc]; split <;> simp
  have X := pv_s4_0 (f := fun c => pv_xv (st c) (fun j => k j c) (pv_oc 3 ow c)) (g := fun c => pv_xv (st c) (fun j => k' j c) (pv_oc kp' ow c)) (fun d hd => by
    show pv_xv (st d) (fun j => k' j d) (pv_oc kp' ow d) = pv_xv (st d) (fun j => k j d) (pv_oc 3 ow d)
    rw [oe, show (fun j => k' j d) = (fun j => k j d) from funext (K d hd)])
  have Y := pv_s4_0 (f := fun c => k 4 c) (g := fun c => k' 4 c) (fun d hd => K d hd 4)
  have k1 : pv_k1 kp' = 1 := by rw [hkp']; simp only [pv_k1]; split <;> simp
  have k3 : pv_k3 kp' = 0 := by rw [hkp']; simp only [pv_k3]; split <;> simp
  simp only [pv_k1, pv_k3] at hX hF
  simp at hX hF
  refine ⟨fun d hd => ?_, ?_, ?_, ?_, how, hsh, ?_, h13⟩
  · rw [oe, show (fun j => k' j d) = (fun j => k j d) from funext (K d hd)]
    exact hL d hd
  · rw [X, k1]; omega
  · rw [Y, k3]; omega
  · rw [hkp']; split <;> omega
  · intro z; rw [hkp'] at z
    by_cases e : sh = 0
    · exact e
    · rw [if_neg e] at z; omega
set_option maxHeartbeats 4000000 in
theorem pv_t_fr {st st' : Nat → Nat} {k k' : Nat → Nat → Nat} {got need got' need' : Nat → Nat} {kp ow sh c r : Nat} (h : pv_li st k got need kp ow sh) (hc : c < 4) (hr : r < 4) (h1 : 1 ≤ k 4 c) (h2 : 1 ≤ k 6 r) (hs : ¬ (4 ≤ st c ∧ st c ≤ 8)) (hst : ∀ d, st' d = if d = c then (if st c ≤ 3 then 1 else 11) else st d) (hk : ∀ j d, k' j d + pv_bk j d 5 c r 0 = k j d + (pv_bk j d 9 r r 0 + pv_bk j d 9 4 r 0)) (h13 : ∀ d, k' 13 d ≤ 3 * k' 10 d) : pv_li st' k' got need kp ow sh := by
  obtain ⟨hL, hX, hF, hkp, how, hsh, hz, h13o⟩ := h
  have L := hL c hc
  have Lr := hL r hr
  have sr := pv_lc_frg Lr h2
  have sc := pv_lc_fq L (by first | omega | (simp only; omega)) hs
  have hcr : c ≠ r := by
    intro e; subst e; omega
  have ob := pv_oc_le kp ow c
  have K : ∀ d, d < 4 → d ≠ c → d ≠ r → ∀ j, k' j d = k j d := by
    intro d h4 n0 n1 j
    have e := hk j d
    rw [pv_bk_0 (show c ≠ d by omega) (show r ≠ d by omega), pv_bk_0 (show r ≠ d by omega) (show r ≠ d by omega), pv_bk_0 (show 4 ≠ d by omega) (show r ≠ d by omega)] at e
    omega
  have C0 := hk 0 c
  have C1 := hk 1 c
  have C2 := hk 2 c
  have C3 := hk 3 c
  have C4 := hk 4 c
  have C5 := hk 5 c
  have C6 := hk 6 c
  have C7 := hk 7 c
  have C8 := hk 8 c
  have C9 := hk 9 c
  have C10 := hk 10 c
  have C11 := hk 11 c
  have C12 := hk 12 c
  have C13 := hk 13 c
  simp [pv_bk, hcr, hcr.symm, show (4 : Nat) ≠ c by omega] at C0 C1 C2 C3 C4 C5 C6 C7 C8 C9 C10 C11 C12 C13
  have R0 := hk 0 r
  have R1 := hk 1 r
  have R2 := hk 2 r
  have R3 := hk 3 r
  have R4 := hk 4 r
  have R5 := hk 5 r
  have R6 := hk 6 r
  have R7 := hk 7 r
  have R8 := hk 8 r
  have R9 := hk 9 r
  have R10 := hk 10 r
  have R11 := hk 11 r
  have R12 := hk 12 r
  have R13 := hk 13 r
  simp [pv_bk, hcr, hcr.symm, show (4 : Nat) ≠ r by omega] at R0 R1 R2 R3 R4 R5 R6 R7 R8 R9 R10 R11 R12 R13
  have H10 := hk 10 4
  simp [pv_bk, show c ≠ 4 by omega, show r ≠ 4 by omega] at H10
  have OO : ∀ d, d < 4 → d ≠ c → d ≠ r → pv_oc kp ow d = pv_oc kp ow d := by
    intro d h4 n0 n1; rfl
  have SS : ∀ d, d < 4 → d ≠ c → d ≠ r → pv_sb sh d = pv_sb sh d := by
    intro d h4 n0 n1; rfl
  have TT : ∀ d, d < 4 → d ≠ c → d ≠ r → st' d = st d := by
    intro d h4 n0 n1; rw [hst d, if_neg n0]
  have LLc : pv_lc (st' c) (fun j => k' j c) (got c) (need c) (pv_oc kp ow c) (pv_sb sh c) := by
    rw [hst c, if_pos rfl]
    rcases sc with e | e | e | e <;> rw [e] at L ⊢ <;> simp [pv_lc] at L ⊢ <;> omega
  have LLr : pv_lc (st' r) (fun j => k' j r) (got r) (need r) (pv_oc kp ow r) (pv_sb sh r) := by
    rw [hst r, if_neg hcr.symm]
    rw [sr] at Lr ⊢
    simp only [pv_lc] at Lr ⊢
    omega
  have LL : ∀ d, d < 4 → pv_lc (st' d) (fun j => k' j d) (got d) (need d) (pv_oc kp ow d) (pv_sb sh d) := by
    intro d h4
    by_cases n0 : d = c
    · subst n0; exact LLc
    by_cases n1 : d = r
    · subst n1; exact LLr
    rw [TT d h4 n0 n1, OO d h4 n0 n1, SS d h4 n0 n1, show (fun j => k' j d) = (fun j => k j d) from funext (K d h4 n0 n1)]
    exact hL d h4
  have X := pv_s4_2 hc hr hcr (f := fun z => pv_xv (st z) (fun j => k j z) (pv_oc kp ow z)) (g := fun z => pv_xv (st' z) (fun j => k' j z) (pv_oc kp ow z)) (fun d h4 n0 n1 => by
    show pv_xv (st' d) (fun j => k' j d) (pv_oc kp ow d) = pv_xv (st d) (fun j => k j d) (pv_oc kp ow d)
    rw [TT d h4 n0 n1, OO d h4 n0 n1, show (fun j => k' j d) = (fun j => k j d) from funext (K d h4 n0 n1)])
  have Y := pv_s4_2 hc hr hcr (f := fun c => k 4 c) (g := fun c => k' 4 c) (fun d h4 n0 n1 => K d h4 n0 n1 4)
  try simp only at X Y
  have xa : pv_xv (st c) (fun j => k j c) (pv_oc kp ow c) = 1 := by rcases sc with e | e | e | e <;> rw [e] at L ⊢ <;> simp only [pv_lc, pv_xv] at L ⊢ <;> omega
  have xb : pv_xv (st' c) (fun j => k' j c) (pv_oc kp ow c) = 0 := by rw [hst c, if_pos rfl]; rcases sc with e | e | e | e <;> rw [e] <;> simp [pv_xv]
  have xc : pv_xv (st r) (fun j => k j r) (pv_oc kp ow r) = k 11 r := by rw [sr]; simp only [pv_xv]
  have xd : pv_xv (st' r) (fun j => k' j r) (pv_oc kp ow r) = k' 11 r := by rw [hst r, if_neg hcr.symm]; rw [sr]; simp only [pv_xv]
  rw [xa, xb, xc, xd] at X
  refine ⟨LL, ?_, ?_, ?_, ?_, ?_, ?_, h13⟩
  · omega
  · omega
  · omega
  · omega
  · omega
  · exact hz
set_option maxHeartbeats 4000000 in
theorem pv_t_fw {st st' : Nat → Nat} {k k' : Nat → Nat → Nat} {got need got' need' : Nat → Nat} {kp ow sh c r : Nat} (h : pv_li st k got need kp ow sh) (hc : c < 4) (hr : r < 4) (h1 : 1 ≤ k 5 c) (h2 : 1 ≤ k 7 r) (hs : ¬ (4 ≤ st c ∧ st c ≤ 8)) (hst : ∀ d, st' d = if d = c then (if st c ≤ 3 then 0 else 12) else st d) (hk : ∀ j d, k' j d + pv_bk j d 6 c r 0 = k j d + pv_bk j d 9 r r 0) (h13 : ∀ d, k' 13 d ≤ 3 * k' 10 d) : pv_li st' k' got need kp ow sh := by
  obtain ⟨hL, hX, hF, hkp, how, hsh, hz, h13o⟩ := h
  have L := hL c hc
  have Lr := hL r hr
  have sr := pv_lc_fwg Lr h2
  have sc := pv_lc_fq L (by first | omega | (simp only; omega)) hs
  have hcr : c ≠ r := by
    intro e; subst e; omega
  have ob := pv_oc_le kp ow c
  have K : ∀ d, d < 4 → d ≠ c → d ≠ r → ∀ j, k' j d = k j d := by
    intro d h4 n0 n1 j
    have e := hk j d
    rw [pv_bk_0 (show c ≠ d by omega) (show r ≠ d by omega), pv_bk_0 (show r ≠ d by omega) (show r ≠ d by omega)] at e
    omega
  have C0 := hk 0 c
  have C1 := hk 1 c
  have C2 := hk 2 c
  have C3 := hk 3 c
  have C4 := hk 4 c
  have C5 := hk 5 c
  have C6 := hk 6 c
  have C7 := hk 7 c
  have C8 := hk 8 c
  have C9 := hk 9 c
  have C10 := hk 10 c
  have C11 := hk 11 c
  have C12 := hk 12 c
  have C13 := hk 13 c
  simp [pv_bk, hcr, hcr.symm, show (4 : Nat) ≠ c by omega] at C0 C1 C2 C3 C4 C5 C6 C7 C8 C9 C10 C11 C12 C13
  have R0 := hk 0 r
  have R1 := hk 1 r
  have R2 := hk 2 r
  have R3 := hk 3 r
  have R4 := hk 4 r
  have R5 := hk 5 r
  have R6 := hk 6 r
  have R7 := hk 7 r
  have R8 := hk 8 r
  have R9 := hk 9 r
  have R10 := hk 10 r
  have R11 := hk 11 r
  have R12 := hk 12 r
  have R13 := hk 13 r
  simp [pv_bk, hcr, hcr.symm, show (4 : Nat) ≠ r by omega] at R0 R1 R2 R3 R4 R5 R6 R7 R8 R9 R10 R11 R12 R13
  have H10 := hk 10 4
  simp [pv_bk, show c ≠ 4 by omega, show r ≠ 4 by omega] at H10
  have OO : ∀ d, d < 4 → d ≠ c → d ≠ r → pv_oc kp ow d = pv_oc kp ow d := by
    intro d h4 n0 n1; rfl
  have SS : ∀ d, d < 4 → d ≠ c → d ≠ r → pv_sb sh d = pv_sb sh d := by
    intro d h4 n0 n1; rfl
  have TT : ∀ d, d < 4 → d ≠ c → d ≠ r → st' d = st d := by
    intro d h4 n0 n1; rw [hst d, if_neg n0]
  have LLc : pv_lc (st' c) (fun j => k' j c) (got c) (need c) (pv_oc kp ow c) (pv_sb sh c) := by
    rw [hst c, if_pos rfl]
    rcases sc with e | e | e | e <;> rw [e] at L ⊢ <;> simp [pv_lc] at L ⊢ <;> omega
  have LLr : pv_lc (st' r) (fun j => k' j r) (got r) (need r) (pv_oc kp ow r) (pv_sb sh r) := by
    rw [hst r, if_neg hcr.symm]
    rcases sr with e | e <;> rw [e] at Lr ⊢ <;> simp only [pv_lc] at Lr ⊢ <;> omega
  have LL : ∀ d, d < 4 → pv_lc (st' d) (fun j => k' j d) (got d) (need d) (pv_oc kp ow d) (pv_sb sh d) := by
    intro d h4
    by_cases n0 : d = c
    · subst n0; exact LLc
    by_cases n1 : d = r
    · subst n1; exact LLr
    rw [TT d h4 n0 n1, OO d h4 n0 n1, SS d h4 n0 n1, show (fun j => k' j d) = (fun j => k j d) from funext (K d h4 n0 n1)]
    exact hL d h4
  have X := pv_s4_2 hc hr hcr (f := fun z => pv_xv (st z) (fun j => k j z) (pv_oc kp ow z)) (g := fun z => pv_xv (st' z) (fun j => k' j z) (pv_oc kp ow z)) (fun d h4 n0 n1 => by
    show pv_xv (st' d) (fun j => k' j d) (pv_oc kp ow d) = pv_xv (st d) (fun j => k j d) (pv_oc kp ow d)
    rw [TT d h4 n0 n1, OO d h4 n0 n1, show (fun j => k' j d) = (fun j => k j d) from funext (K d h4 n0 n1)])
  have Y := pv_s4_2 hc hr hcr (f := fun c => k 4 c) (g := fun c => k' 4 c) (fun d h4 n0 n1 => K d h4 n0 n1 4)
  try simp only at X Y
  have xa : pv_xv (st c) (fun j => k j c) (pv_oc kp ow c) = 1 := by rcases sc with e | e | e | e <;> rw [e] at L ⊢ <;> simp only [pv_lc, pv_xv] at L ⊢ <;> omega
  have xb : pv_xv (st' c) (fun j => k' j c) (pv_oc kp ow c) = 0 := by rw [hst c, if_pos rfl]; rcases sc with e | e | e | e <;> rw [e] <;> simp [pv_xv]
  have xc : pv_xv (st r) (fun j => k j r) (pv_oc kp ow r) = k 10 r := by rcases sr with e | e <;> rw [e] <;> simp only [pv_xv]
  have xd : pv_xv (st' r) (fun j => k' j r) (pv_oc kp ow r) = k' 10 r := by rw [hst r, if_neg hcr.symm]; rcases sr with e | e <;> rw [e] <;> simp only [pv_xv]
  rw [xa, xb, xc, xd] at X
  refine ⟨LL, ?_, ?_, ?_, ?_, ?_, ?_, h13⟩
  · omega
  · omega
  · omega
  · omega
  · omega
  · exact hz
set_option maxHeartbeats 4000000 in
theorem pv_t_dr {st st' : Nat → Nat} {k k' : Nat → Nat → Nat} {got need got' need' : Nat → Nat} {kp ow sh c r : Nat} (h : pv_li st k got need kp ow sh) (hc : c < 4) (hr : r < 4) (hcr : c ≠ r) (h1 : 1 ≤ k 8 c) (h2 : 1 ≤ k 9 r) (hs : st c ≠ 4) (hst : ∀ d, st' d = if d = c then (if st c = 7 then 5 else if st c = 11 then 12 else 0) else st d) (hk : ∀ j d, k' j d + pv_bk j d 7 c r 0 = k j d + pv_bk j d 11 r r 0) (h13 : ∀ d, k' 13 d ≤ 3 * k' 10 d) : pv_li st' k' got need kp ow sh := by
  obtain ⟨hL, hX, hF, hkp, how, hsh, hz, h13o⟩ := h
  have L := hL c hc
  have Lr := hL r hr
  have sc := pv_lc_dq L h1 hs
  have ob := pv_oc_le kp ow c
  have h13r := h13o r
  have K : ∀ d, d < 4 → d ≠ c → d ≠ r → ∀ j, k' j d = k j d := by
    intro d h4 n0 n1 j
    have e := hk j d
    rw [pv_bk_0 (show c ≠ d by omega) (show r ≠ d by omega), pv_bk_0 (show r ≠ d by omega) (show r ≠ d by omega)] at e
    omega
  have C0 := hk 0 c
  have C1 := hk 1 c
  have C2 := hk 2 c
  have C3 := hk 3 c
  have C4 := hk 4 c
  have C5 := hk 5 c
  have C6 := hk 6 c
  have C7 := hk 7 c
  have C8 := hk 8 c
  have C9 := hk 9 c
  have C10 := hk 10 c
  have C11 := hk 11 c
  have C12 := hk 12 c
  have C13 := hk 13 c
  simp [pv_bk, hcr, hcr.symm, show (4 : Nat) ≠ c by omega] at C0 C1 C2 C3 C4 C5 C6 C7 C8 C9 C10 C11 C12 C13
  have R0 := hk 0 r
  have R1 := hk 1 r
  have R2 := hk 2 r
  have R3 := hk 3 r
  have R4 := hk 4 r
  have R5 := hk 5 r
  have R6 := hk 6 r
  have R7 := hk 7 r
  have R8 := hk 8 r
  have R9 := hk 9 r
  have R10 := hk 10 r
  have R11 := hk 11 r
  have R12 := hk 12 r
  have R13 := hk 13 r
  simp [pv_bk, hcr, hcr.symm, show (4 : Nat) ≠ r by omega] at R0 R1 R2 R3 R4 R5 R6 R7 R8 R9 R10 R11 R12 R13
  have H10 := hk 10 4
  simp [pv_bk, show c ≠ 4 by omega, show r ≠ 4 by omega] at H10
  have OO : ∀ d, d < 4 → d ≠ c → d ≠ r → pv_oc kp ow d = pv_oc kp ow d := by
    intro d h4 n0 n1; rfl
  have SS : ∀ d, d < 4 → d ≠ c → d ≠ r → pv_sb sh d = pv_sb sh d := by
    intro d h4 n0 n1; rfl
  have TT : ∀ d, d < 4 → d ≠ c → d ≠ r → st' d = st d := by
    intro d h4 n0 n1; rw [hst d, if_neg n0]
  have LLc : pv_lc (st' c) (fun j => k' j c) (got c) (need c) (pv_oc kp ow c) (pv_sb sh c) := by
    rw [hst c, if_pos rfl]
    rcases sc with e | e | e <;> rw [e] at L ⊢ <;> simp [pv_lc] at L ⊢ <;> omega
  have LLr : pv_lc (st' r) (fun j => k' j r) (got r) (need r) (pv_oc kp ow r) (pv_sb sh r) := by
    rw [hst r, if_neg hcr.symm]
    unfold pv_lc at Lr ⊢
    split at Lr <;> first | exact Lr.elim | ((try dsimp only at *) ; omega)
  have LL : ∀ d, d < 4 → pv_lc (st' d) (fun j => k' j d) (got d) (need d) (pv_oc kp ow d) (pv_sb sh d) := by
    intro d h4
    by_cases n0 : d = c
    · subst n0; exact LLc
    by_cases n1 : d = r
    · subst n1; exact LLr
    rw [TT d h4 n0 n1, OO d h4 n0 n1, SS d h4 n0 n1, show (fun j => k' j d) = (fun j => k j d) from funext (K d h4 n0 n1)]
    exact hL d h4
  have X := pv_s4_2 hc hr hcr (f := fun z => pv_xv (st z) (fun j => k j z) (pv_oc kp ow z)) (g := fun z => pv_xv (st' z) (fun j => k' j z) (pv_oc kp ow z)) (fun d h4 n0 n1 => by
    show pv_xv (st' d) (fun j => k' j d) (pv_oc kp ow d) = pv_xv (st d) (fun j => k j d) (pv_oc kp ow d)
    rw [TT d h4 n0 n1, OO d h4 n0 n1, show (fun j => k' j d) = (fun j => k j d) from funext (K d h4 n0 n1)])
  have Y := pv_s4_2 hc hr hcr (f := fun c => k 4 c) (g := fun c => k' 4 c) (fun d h4 n0 n1 => K d h4 n0 n1 4)
  try simp only at X Y
  have xa : pv_xv (st' c) (fun j => k' j c) (pv_oc kp ow c) = pv_xv (st c) (fun j => k j c) (pv_oc kp ow c) := by rw [hst c, if_pos rfl]; rcases sc with e | e | e <;> rw [e] <;> simp [pv_xv] <;> omega
  have xb : pv_xv (st' r) (fun j => k' j r) (pv_oc kp ow r) = pv_xv (st r) (fun j => k j r) (pv_oc kp ow r) := by rw [hst r, if_neg hcr.symm]; simp only [pv_xv, R4, R5, R10, R11]
  rw [xa, xb] at X
  refine ⟨LL, ?_, ?_, ?_, ?_, ?_, ?_, h13⟩
  · omega
  · omega
  · omega
  · omega
  · omega
  · exact hz
set_option maxHeartbeats 4000000 in
theorem pv_t_lf {st st' : Nat → Nat} {k k' : Nat → Nat → Nat} {got need got' need' : Nat → Nat} {kp ow sh c : Nat} (h : pv_li st k got need kp ow sh) (hc : c < 4) (h1 : 1 ≤ k 3 c) (h2 : k 4 c = 0 ∧ k 5 c = 0 ∧ k 8 c = 0) (hst : ∀ d, st' d = if d = c then 0 else st d) (hk : ∀ j d, k' j d + pv_bk j d 8 c c 0 = k j d + 0) (h13 : ∀ d, k' 13 d ≤ 3 * k' 10 d) : pv_li st' k' got need kp ow sh := by
  obtain ⟨hL, hX, hF, hkp, how, hsh, hz, h13o⟩ := h
  have L := hL c hc
  have s9 := pv_lc_lf L h1
  have K : ∀ d, d < 4 → d ≠ c → ∀ j, k' j d = k j d := by
    intro d h4 n0 j
    have e := hk j d
    rw [pv_bk_0 (show c ≠ d by omega) (show c ≠ d by omega)] at e
    omega
  have C0 := hk 0 c
  have C1 := hk 1 c
  have C2 := hk 2 c
  have C3 := hk 3 c
  have C4 := hk 4 c
  have C5 := hk 5 c
  have C6 := hk 6 c
  have C7 := hk 7 c
  have C8 := hk 8 c
  have C9 := hk 9 c
  have C10 := hk 10 c
  have C11 := hk 11 c
  have C12 := hk 12 c
  have C13 := hk 13 c
  simp [pv_bk, show (4 : Nat) ≠ c by omega] at C0 C1 C2 C3 C4 C5 C6 C7 C8 C9 C10 C11 C12 C13
  have H10 := hk 10 4
  simp [pv_bk, show c ≠ 4 by omega] at H10
  have OO : ∀ d, d < 4 → d ≠ c → pv_oc kp ow d = pv_oc kp ow d := by
    intro d h4 n0; rfl
  have SS : ∀ d, d < 4 → d ≠ c → pv_sb sh d = pv_sb sh d := by
    intro d h4 n0; rfl
  have TT : ∀ d, d < 4 → d ≠ c → st' d = st d := by
    intro d h4 n0; rw [hst d, if_neg n0]
  have LLc : pv_lc (st' c) (fun j => k' j c) (got c) (need c) (pv_oc kp ow c) (pv_sb sh c) := by
    rw [hst c, if_pos rfl]
    rcases s9 with e | e | e | e <;> rw [e] at L <;> simp only [pv_lc] at L ⊢ <;> omega
  have LL : ∀ d, d < 4 → pv_lc (st' d) (fun j => k' j d) (got d) (need d) (pv_oc kp ow d) (pv_sb sh d) := by
    intro d h4
    by_cases n0 : d = c
    · subst n0; exact LLc
    rw [TT d h4 n0, OO d h4 n0, SS d h4 n0, show (fun j => k' j d) = (fun j => k j d) from funext (K d h4 n0)]
    exact hL d h4
  have X := pv_s4_1 hc (f := fun z => pv_xv (st z) (fun j => k j z) (pv_oc kp ow z)) (g := fun z => pv_xv (st' z) (fun j => k' j z) (pv_oc kp ow z)) (fun d h4 n0 => by
    show pv_xv (st' d) (fun j => k' j d) (pv_oc kp ow d) = pv_xv (st d) (fun j => k j d) (pv_oc kp ow d)
    rw [TT d h4 n0, OO d h4 n0, show (fun j => k' j d) = (fun j => k j d) from funext (K d h4 n0)])
  have Y := pv_s4_1 hc (f := fun c => k 4 c) (g := fun c => k' 4 c) (fun d h4 n0 => K d h4 n0 4)
  try simp only at X Y
  have xa : pv_xv (st c) (fun j => k j c) (pv_oc kp ow c) = 0 := by rcases s9 with e | e | e | e <;> rw [e] at L ⊢ <;> simp only [pv_lc, pv_xv] at L ⊢ <;> omega
  have xb : pv_xv (st' c) (fun j => k' j c) (pv_oc kp ow c) = 0 := by rw [hst c, if_pos rfl]; simp only [pv_xv]
  rw [xa, xb] at X
  refine ⟨LL, ?_, ?_, ?_, ?_, ?_, ?_, h13⟩
  · omega
  · omega
  · omega
  · omega
  · omega
  · exact hz
set_option maxHeartbeats 4000000 in
theorem pv_t_da4 {st st' : Nat → Nat} {k k' : Nat → Nat → Nat} {got need got' need' : Nat → Nat} {kp ow sh c n : Nat} (h : pv_li st k got need kp ow sh) (hc : c < 4) (h1 : 1 ≤ k 10 c) (h4 : st c = 4) (hst : ∀ d, st' d = if d = c then 1 else st d) (hk : ∀ j d, k' j d + pv_bk j d 9 c c n = k j d + 0) (h13 : ∀ d, k' 13 d ≤ 3 * k' 10 d) : pv_li st' k' got need kp ow sh := by
  obtain ⟨hL, hX, hF, hkp, how, hsh, hz, h13o⟩ := h
  have L := hL c hc
  rw [h4] at L
  simp only [pv_lc] at L
  have K : ∀ d, d < 4 → d ≠ c → ∀ j, k' j d = k j d := by
    intro d h4 n0 j
    have e := hk j d
    rw [pv_bk_0 (show c ≠ d by omega) (show c ≠ d by omega)] at e
    omega
  have C0 := hk 0 c
  have C1 := hk 1 c
  have C2 := hk 2 c
  have C3 := hk 3 c
  have C4 := hk 4 c
  have C5 := hk 5 c
  have C6 := hk 6 c
  have C7 := hk 7 c
  have C8 := hk 8 c
  have C9 := hk 9 c
  have C10 := hk 10 c
  have C11 := hk 11 c
  have C12 := hk 12 c
  have C13 := hk 13 c
  simp [pv_bk, show (4 : Nat) ≠ c by omega] at C0 C1 C2 C3 C4 C5 C6 C7 C8 C9 C10 C11 C12 C13
  have H10 := hk 10 4
  simp [pv_bk, show c ≠ 4 by omega] at H10
  have OO : ∀ d, d < 4 → d ≠ c → pv_oc kp ow d = pv_oc kp ow d := by
    intro d h4 n0; rfl
  have SS : ∀ d, d < 4 → d ≠ c → pv_sb sh d = pv_sb sh d := by
    intro d h4 n0; rfl
  have TT : ∀ d, d < 4 → d ≠ c → st' d = st d := by
    intro d h4 n0; rw [hst d, if_neg n0]
  have LLc : pv_lc (st' c) (fun j => k' j c) (got c) (need c) (pv_oc kp ow c) (pv_sb sh c) := by
    rw [hst c, if_pos rfl]
    simp only [pv_lc]
    omega
  have LL : ∀ d, d < 4 → pv_lc (st' d) (fun j => k' j d) (got d) (need d) (pv_oc kp ow d) (pv_sb sh d) := by
    intro d h4
    by_cases n0 : d = c
    · subst n0; exact LLc
    rw [TT d h4 n0, OO d h4 n0, SS d h4 n0, show (fun j => k' j d) = (fun j => k j d) from funext (K d h4 n0)]
    exact hL d h4
  have X := pv_s4_1 hc (f := fun z => pv_xv (st z) (fun j => k j z) (pv_oc kp ow z)) (g := fun z => pv_xv (st' z) (fun j => k' j z) (pv_oc kp ow z)) (fun d h4 n0 => by
    show pv_xv (st' d) (fun j => k' j d) (pv_oc kp ow d) = pv_xv (st d) (fun j => k j d) (pv_oc kp ow d)
    rw [TT d h4 n0, OO d h4 n0, show (fun j => k' j d) = (fun j => k j d) from funext (K d h4 n0)])
  have Y := pv_s4_1 hc (f := fun c => k 4 c) (g := fun c => k' 4 c) (fun d h4 n0 => K d h4 n0 4)
  try simp only at X Y
  have xa : pv_xv (st c) (fun j => k j c) (pv_oc kp ow c) = k 11 c := by rw [h4]; simp only [pv_xv]
  have xb : pv_xv (st' c) (fun j => k' j c) (pv_oc kp ow c) = 0 := by rw [hst c, if_pos rfl]; simp only [pv_xv]
  rw [xa, xb] at X
  refine ⟨LL, ?_, ?_, ?_, ?_, ?_, ?_, h13⟩
  · omega
  · omega
  · omega
  · omega
  · omega
  · exact hz
set_option maxHeartbeats 4000000 in
theorem pv_t_da5 {st st' : Nat → Nat} {k k' : Nat → Nat → Nat} {got need got' need' : Nat → Nat} {kp ow sh c n : Nat} (h : pv_li st k got need kp ow sh) (hc : c < 4) (h1 : 1 ≤ k 10 c) (h5 : st c = 5 ∨ st c = 7) (hdq : 1 ≤ k 8 c → ∃ d, d < 4 ∧ d ≠ c ∧ 1 ≤ k 9 d) (hst : ∀ d, st' d = if d = c then (if got c = n then 3 else if st c = 7 then 8 else 6) else st d) (hn : ∀ d, need' d = if d = c then n else need d) (hk : ∀ j d, k' j d + pv_bk j d 9 c c n = k j d + 0) (h13 : ∀ d, k' 13 d ≤ 3 * k' 10 d) : pv_li st' k' got need' kp ow sh := by
  obtain ⟨hL, hX, hF, hkp, how, hsh, hz, h13o⟩ := h
  have L := hL c hc
  have h13c := h13 c
  have h13d := h13o c
  have xa : pv_xv (st c) (fun j => k j c) (pv_oc kp ow c) = k 10 c := by rcases h5 with e | e <;> rw [e] <;> simp only [pv_xv]
  have d0 : k 8 c = 0 := by
    by_cases z : k 8 c = 0
    · exact z
    · obtain ⟨d, hd, hdc, h9⟩ := hdq (by omega)
      have Ld := hL d hd
      have sd := pv_lc_ack Ld (by first | omega | (simp only; omega)) (h13o d)
      have xd : 1 ≤ pv_xv (st d) (fun j => k j d) (pv_oc kp ow d) := by
        rcases sd with ⟨e | e, z⟩ | e | e <;> rw [e] <;> simp only [pv_xv] <;> omega
      have := pv_s4_le2 (f := fun c => pv_xv (st c) (fun j => k j c) (pv_oc kp ow c)) hd hc hdc
      try simp only at this
      rw [xa] at this
      omega
  have K : ∀ d, d < 4 → d ≠ c → ∀ j, k' j d = k j d := by
    intro d h4 n0 j
    have e := hk j d
    rw [pv_bk_0 (show c ≠ d by omega) (show c ≠ d by omega)] at e
    omega
  have C0 := hk 0 c
  have C1 := hk 1 c
  have C2 := hk 2 c
  have C3 := hk 3 c
  have C4 := hk 4 c
  have C5 := hk 5 c
  have C6 := hk 6 c
  have C7 := hk 7 c
  have C8 := hk 8 c
  have C9 := hk 9 c
  have C10 := hk 10 c
  have C11 := hk 11 c
  have C12 := hk 12 c
  have C13 := hk 13 c
  simp [pv_bk, show (4 : Nat) ≠ c by omega] at C0 C1 C2 C3 C4 C5 C6 C7 C8 C9 C10 C11 C12 C13
  have H10 := hk 10 4
  simp [pv_bk, show c ≠ 4 by omega] at H10
  have OO : ∀ d, d < 4 → d ≠ c → pv_oc kp ow d = pv_oc kp ow d := by
    intro d h4 n0; rfl
  have SS : ∀ d, d < 4 → d ≠ c → pv_sb sh d = pv_sb sh d := by
    intro d h4 n0; rfl
  have TT : ∀ d, d < 4 → d ≠ c → st' d = st d := by
    intro d h4 n0; rw [hst d, if_neg n0]
  have LLc : pv_lc (st' c) (fun j => k' j c) (got c) (need' c) (pv_oc kp ow c) (pv_sb sh c) := by
    rw [hst c, if_pos rfl, hn c, if_pos rfl]
    split
    · rcases h5 with e | e <;> rw [e] at L <;> simp only [pv_lc] at L ⊢ <;> omega
    · rcases h5 with e | e <;> rw [e] at L <;> simp [pv_lc] at L ⊢ <;> (try rw [e]) <;> simp [pv_lc] <;> omega
  have LL : ∀ d, d < 4 → pv_lc (st' d) (fun j => k' j d) (got d) (need' d) (pv_oc kp ow d) (pv_sb sh d) := by
    intro d h4
    by_cases n0 : d = c
    · subst n0; exact LLc
    rw [TT d h4 n0, OO d h4 n0, SS d h4 n0, show (fun j => k' j d) = (fun j => k j d) from funext (K d h4 n0), hn d, if_neg n0]
    exact hL d h4
  have X := pv_s4_1 hc (f := fun z => pv_xv (st z) (fun j => k j z) (pv_oc kp ow z)) (g := fun z => pv_xv (st' z) (fun j => k' j z) (pv_oc kp ow z)) (fun d h4 n0 => by
    show pv_xv (st' d) (fun j => k' j d) (pv_oc kp ow d) = pv_xv (st d) (fun j => k j d) (pv_oc kp ow d)
    rw [TT d h4 n0, OO d h4 n0, show (fun j => k' j d) = (fun j => k j d) from funext (K d h4 n0)])
  have Y := pv_s4_1 hc (f := fun c => k 4 c) (g := fun c => k' 4 c) (fun d h4 n0 => K d h4 n0 4)
  try simp only at X Y
  have xb : pv_xv (st' c) (fun j => k' j c) (pv_oc kp ow c) = 1 := by
    rw [hst c, if_pos rfl]; split
    · simp only [pv_xv]
    · split <;> simp only [pv_xv]
  have z10 : k 10 c = 1 := by rcases h5 with e | e <;> rw [e] at L <;> simp only [pv_lc] at L <;> omega
  rw [xa, xb] at X
  refine ⟨LL, ?_, ?_, ?_, ?_, ?_, ?_, h13⟩
  · omega
  · omega
  · omega
  · omega
  · omega
  · exact hz
set_option maxHeartbeats 4000000 in
theorem pv_t_so {st st' : Nat → Nat} {k k' : Nat → Nat → Nat} {got need got' need' : Nat → Nat} {kp ow sh c : Nat} (h : pv_li st k got need kp ow sh) (hc : c < 4) (h1 : 1 ≤ k 11 c) (hst : ∀ d, st' d = if d = c then 2 else st d) (hk : ∀ j d, k' j d + pv_bk j d 10 c c 0 = k j d + 0) (h13 : ∀ d, k' 13 d ≤ 3 * k' 10 d) : pv_li st' k' got need kp ow sh := by
  obtain ⟨hL, hX, hF, hkp, how, hsh, hz, h13o⟩ := h
  have L := hL c hc
  have h4 := pv_lc_so L h1
  rw [h4] at L
  simp only [pv_lc] at L
  have K : ∀ d, d < 4 → d ≠ c → ∀ j, k' j d = k j d := by
    intro d h4 n0 j
    have e := hk j d
    rw [pv_bk_0 (show c ≠ d by omega) (show c ≠ d by omega)] at e
    omega
  have C0 := hk 0 c
  have C1 := hk 1 c
  have C2 := hk 2 c
  have C3 := hk 3 c
  have C4 := hk 4 c
  have C5 := hk 5 c
  have C6 := hk 6 c
  have C7 := hk 7 c
  have C8 := hk 8 c
  have C9 := hk 9 c
  have C10 := hk 10 c
  have C11 := hk 11 c
  have C12 := hk 12 c
  have C13 := hk 13 c
  simp [pv_bk, show (4 : Nat) ≠ c by omega] at C0 C1 C2 C3 C4 C5 C6 C7 C8 C9 C10 C11 C12 C13
  have H10 := hk 10 4
  simp [pv_bk, show c ≠ 4 by omega] at H10
  have OO : ∀ d, d < 4 → d ≠ c → pv_oc kp ow d = pv_oc kp ow d := by
    intro d h4 n0; rfl
  have SS : ∀ d, d < 4 → d ≠ c → pv_sb sh d = pv_sb sh d := by
    intro d h4 n0; rfl
  have TT : ∀ d, d < 4 → d ≠ c → st' d = st d := by
    intro d h4 n0; rw [hst d, if_neg n0]
  have LLc : pv_lc (st' c) (fun j => k' j c) (got c) (need c) (pv_oc kp ow c) (pv_sb sh c) := by
    rw [hst c, if_pos rfl]
    simp only [pv_lc]
    omega
  have LL : ∀ d, d < 4 → pv_lc (st' d) (fun j => k' j d) (got d) (need d) (pv_oc kp ow d) (pv_sb sh d) := by
    intro d h4
    by_cases n0 : d = c
    · subst n0; exact LLc
    rw [TT d h4 n0, OO d h4 n0, SS d h4 n0, show (fun j => k' j d) = (fun j => k j d) from funext (K d h4 n0)]
    exact hL d h4
  have X := pv_s4_1 hc (f := fun z => pv_xv (st z) (fun j => k j z) (pv_oc kp ow z)) (g := fun z => pv_xv (st' z) (fun j => k' j z) (pv_oc kp ow z)) (fun d h4 n0 => by
    show pv_xv (st' d) (fun j => k' j d) (pv_oc kp ow d) = pv_xv (st d) (fun j => k j d) (pv_oc kp ow d)
    rw [TT d h4 n0, OO d h4 n0, show (fun j => k' j d) = (fun j => k j d) from funext (K d h4 n0)])
  have Y := pv_s4_1 hc (f := fun c => k 4 c) (g := fun c => k' 4 c) (fun d h4 n0 => K d h4 n0 4)
  try simp only at X Y
  have xa : pv_xv (st c) (fun j => k j c) (pv_oc kp ow c) = k 11 c := by rw [h4]; simp only [pv_xv]
  have xb : pv_xv (st' c) (fun j => k' j c) (pv_oc kp ow c) = 1 := by rw [hst c, if_pos rfl]; simp only [pv_xv]
  rw [xa, xb] at X
  refine ⟨LL, ?_, ?_, ?_, ?_, ?_, ?_, h13⟩
  · omega
  · omega
  · omega
  · omega
  · omega
  · exact hz
set_option maxHeartbeats 4000000 in
theorem pv_t_dd {st st' : Nat → Nat} {k k' : Nat → Nat → Nat} {got need got' need' : Nat → Nat} {kp ow sh c : Nat} (h : pv_li st k got need kp ow sh) (hc : c < 4) (h1 : 1 ≤ k 12 c) (hst : ∀ d, st' d = if d = c then (if (st c = 6 ∨ st c = 8) ∧ got c + 1 = need c then 3 else st c) else st d) (hg : ∀ d, got' d = if d = c then got c + 1 else got d) (hk : ∀ j d, k' j d + pv_bk j d 11 c c 0 = k j d + 0) (h13 : ∀ d, k' 13 d ≤ 3 * k' 10 d) : pv_li st' k' got' need kp ow sh := by
  obtain ⟨hL, hX, hF, hkp, how, hsh, hz, h13o⟩ := h
  have L := hL c hc
  have sa := pv_lc_ack L (by first | omega | (simp only; omega)) (h13o c)
  have sb : st c = 5 ∨ st c = 7 ∨ st c = 6 ∨ st c = 8 := by omega
  have K : ∀ d, d < 4 → d ≠ c → ∀ j, k' j d = k j d := by
    intro d h4 n0 j
    have e := hk j d
    rw [pv_bk_0 (show c ≠ d by omega) (show c ≠ d by omega)] at e
    omega
  have C0 := hk 0 c
  have C1 := hk 1 c
  have C2 := hk 2 c
  have C3 := hk 3 c
  have C4 := hk 4 c
  have C5 := hk 5 c
  have C6 := hk 6 c
  have C7 := hk 7 c
  have C8 := hk 8 c
  have C9 := hk 9 c
  have C10 := hk 10 c
  have C11 := hk 11 c
  have C12 := hk 12 c
  have C13 := hk 13 c
  simp [pv_bk, show (4 : Nat) ≠ c by omega] at C0 C1 C2 C3 C4 C5 C6 C7 C8 C9 C10 C11 C12 C13
  have H10 := hk 10 4
  simp [pv_bk, show c ≠ 4 by omega] at H10
  have OO : ∀ d, d < 4 → d ≠ c → pv_oc kp ow d = pv_oc kp ow d := by
    intro d h4 n0; rfl
  have SS : ∀ d, d < 4 → d ≠ c → pv_sb sh d = pv_sb sh d := by
    intro d h4 n0; rfl
  have TT : ∀ d, d < 4 → d ≠ c → st' d = st d := by
    intro d h4 n0; rw [hst d, if_neg n0]
  have LLc : pv_lc (st' c) (fun j => k' j c) (got' c) (need c) (pv_oc kp ow c) (pv_sb sh c) := by
    rw [hst c, if_pos rfl, hg c, if_pos rfl]
    split
    · rcases sb with e | e | e | e <;> rw [e] at L <;> simp only [pv_lc] at L ⊢ <;> omega
    · rcases sb with e | e | e | e <;> rw [e] at L ⊢ <;> simp only [pv_lc] at L ⊢ <;> omega
  have LL : ∀ d, d < 4 → pv_lc (st' d) (fun j => k' j d) (got' d) (need d) (pv_oc kp ow d) (pv_sb sh d) := by
    intro d h4
    by_cases n0 : d = c
    · subst n0; exact LLc
    rw [TT d h4 n0, OO d h4 n0, SS d h4 n0, show (fun j => k' j d) = (fun j => k j d) from funext (K d h4 n0), hg d, if_neg n0]
    exact hL d h4
  have X := pv_s4_1 hc (f := fun z => pv_xv (st z) (fun j => k j z) (pv_oc kp ow z)) (g := fun z => pv_xv (st' z) (fun j => k' j z) (pv_oc kp ow z)) (fun d h4 n0 => by
    show pv_xv (st' d) (fun j => k' j d) (pv_oc kp ow d) = pv_xv (st d) (fun j => k j d) (pv_oc kp ow d)
    rw [TT d h4 n0, OO d h4 n0, show (fun j => k' j d) = (fun j => k j d) from funext (K d h4 n0)])
  have Y := pv_s4_1 hc (f := fun c => k 4 c) (g := fun c => k' 4 c) (fun d h4 n0 => K d h4 n0 4)
  try simp only at X Y
  have xa : pv_xv (st' c) (fun j => k' j c) (pv_oc kp ow c) = pv_xv (st c) (fun j => k j c) (pv_oc kp ow c) := by
    rw [hst c, if_pos rfl]; split
    · next z => rcases z.1 with e | e <;> rw [e] <;> simp only [pv_xv]
    · simp only [pv_xv, C4, C5, C10, C11]
  rw [xa] at X
  refine ⟨LL, ?_, ?_, ?_, ?_, ?_, ?_, h13⟩
  · omega
  · omega
  · omega
  · omega
  · omega
  · exact hz
