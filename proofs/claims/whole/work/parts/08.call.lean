section ZC
variable {p : Program} {l : Launch} {e : Env} {R : Room} {s : State} {m : MethodId} {args : Array Value} {below : List Frame} {meth : Method} {c : Code} {H : Heap} {locs : List Loc} {cells slots : Nat} {Q : State → Prop}
variable {cc : ByteArray} {nL pc : Nat} {ls : Array Slot} {rest : List Value} {own : String} {dC : Nat → ClassId} {dI : Nat → Nat → Nat} {k : Nat → ClassId} {q : Nat → Nat} {X X' : zXS} {M M' : zMS} {A : Nat → Prop} {H0 : Heap}
variable {y : MethodName} {b : ByteArray} {n fr lo index : Nat} {rt : Option FieldType} {As : List Value} {rv : Option Value}
theorem zPc_blind {av : List Value} : FrameBlind (zPc dC dI k q X M av) := by
  rintro a U g mk ⟨e, hP, hK, hD, hN⟩
  exact ⟨e, hP, va_K.moved (u := U) (U := U.calling g mk a) (Vm.Alike.refl U.vm) hK, hD, fun w hw => va_Nw.same (u := U) (by
    have := (List.mem_filter.mp hw).2
    cases w <;> first | rfl | (simp [zNest] at this)) rfl (hN w hw)⟩
theorem zNw_warm {s U : State} (hW : s.WarmedH U.vm) (h : ∀ w ∈ zNw, va_Nw w s) : ∀ w ∈ zNw, va_Nw w U := by
  intro w hw
  have h1 := h w hw
  have h2 := (List.mem_filter.mp hw).2
  cases w <;> first | exact va_Nw.warmF hW h1 | exact va_Nw.warmM hW h1 | (simp [zNest] at h2)
theorem zGood {w0 : Cond} (h0 : w0 ∈ zB) : GoodIn zB (w0 :: zB) := by
  intro w hw
  rcases List.mem_cons.mp hw with rfl | hw
  · exact ⟨h0, zB_good h0⟩
  · exact ⟨hw, zB_good hw⟩
theorem z_after {mc ms : Nat} {g : JFrame} (hr : va_Run p l e R s m args below meth c H locs cells slots 0 0 g rest (zQc dC dI k q X' M' rv (Array.mk As)) (zA q)) (hg : g = F0 m pc ls g.stack) (h : zH dC dI k q X M A H0 H locs)
    (kk : ∀ (H1 : Heap) (locs1 : List Loc), zH dC dI k q X' M' A H0 H1 locs1 → W p l e R s m args below meth c H1 locs1 cells slots Q (F0 m (pc + 3) ls (rv.toList ++ rest))) : W p l e R s m args below meth c H locs cells slots Q g := by
  intro T hT Xs
  obtain ⟨v, st₀, t, T', L, h0, X1, hL, e1, e2, ⟨hv, hP, hF⟩, st⟩ := hr T hT Xs
  cases hv
  obtain ⟨hz, hk⟩ := hF
  rw [h0] at hz hk
  have hA := zA_le h.2.1
  obtain ⟨hS1, hS2, hS3⟩ := h.2.2
  obtain ⟨t2, a1, b1⟩ := kk T'.heap (locs ++ L) ⟨by rw [e1]; exact hP, zD_any h.2.1, by rw [e1]; exact Nat.le_trans hS1 hz, fun x h1 h2 => by rw [e1, hk x (Nat.lt_of_lt_of_le h1 hS1) (fun z => h2 (hA x z))]; exact hS2 x h1 h2, fun x hx => by
    rcases List.mem_append.mp hx with h | h
    · exact hS3 x h
    · exact hA _ (hL x h)⟩ T' rfl X1
  refine ⟨t2, st t2 ?_, b1⟩
  rw [hg]
  exact a1
theorem z_callV (C : zCx p s m args c cc nL own dC dI k) (h : zH dC dI k q X M A H0 H locs) {a i ci N : Nat} {T : u_T} {fs : List Value} (hM : zMet l dC dI k q y b n rt fr lo (.ref a :: As) rv X M X' M') (hcode : Cond.code y b n rt ∈ zB) (hl : Cond.methodLink own index y ∈ zB) (hi : Cond.instanceMethod y ∈ zB) (hse : Cond.selects y.cls y y ∈ zB) (hini : Cond.initialized y.cls ∈ zB)
    (hcell : (zW q k X M)[i]? = some (a, .inr (ci, fs))) (hc : zCl[ci]? = some (y.cls, T, N)) (hd : y.cls ≠ "java/lang/invoke/MethodHandle" ∧ y.cls ≠ "java/lang/invoke/VarHandle" ∧ (parseMethodDescriptor y.desc).map (fun d => d.parameters.length) = some As.length) (hR : fr + 1 ≤ R.frames ∧ 8 + (n + 11) + lo ≤ R.locals) (hcs : cells ≤ R.cells ∧ slots ≤ R.slots) (hls : ls.size = nL) (hroom : (rest.map fun v => v.category).sum ≤ 8) (hdg : decode cc pc = .ok (.invokevirtual index, 3)) {st : List Value} (hst : st = As.reverse ++ .ref a :: rest)
    (kk : ∀ (H1 : Heap) (locs1 : List Loc), zH dC dI k q X' M' A H0 H1 locs1 → W p l e R s m args below meth c H1 locs1 cells slots Q (F0 m (pc + 3) ls (rv.toList ++ rest))) : W p l e R s m args below meth c H locs cells slots Q (F0 m pc ls st) := by
  obtain ⟨hx, hb, hml, hown, hts, hK, hN⟩ := C
  subst hst
  have hG : GoodIn zB (wsV own index y.cls y (.code y b n rt :: zB)) := by
    intro w hw
    rcases List.mem_append.mp hw with h1 | h1
    · simp only [List.mem_cons, List.not_mem_nil, or_false] at h1
      rcases h1 with rfl | rfl | rfl | rfl
      · exact ⟨hl, zB_good hl⟩
      · exact ⟨hi, zB_good hi⟩
      · exact ⟨hse, zB_good hse⟩
      · exact ⟨hini, zB_good hini⟩
    · exact zGood hcode w h1
  have cw := cwV (R := R) (own := own) (index := index) (C := y.cls) (y := y) (bytes := b) (maxL := n) (ret := rt) (rm := { frames := fr, cells := 0, slots := 0, locals := lo }) (mc := 0) (ms := 0) As.length hts hG rfl rfl rfl ⟨rfl, hd⟩ hR
  have pre : PreV s H y.cls a (zPc dC dI k q X M (.ref a :: As)) As := ⟨zPc_blind, va_recv hK h.1 hc hcell, fun U hU hW => ⟨rfl, by rw [hU]; exact h.1, va_K.moved hW.alike hK, zD_self h.2.1, zNw_warm hW hN⟩⟩
  exact z_after (mc := 0) (ms := 0) (va_runV (As := As) (rest := rest) ⟨hx, hb, hml, hown, hts⟩ hM cw pre (g := F0 m pc ls (As.reverse ++ .ref a :: rest)) rfl rfl hls rfl (lv_room hroom) hdg hcs) rfl h kk
theorem z_callS (C : zCx p s m args c cc nL own dC dI k) (h : zH dC dI k q X M A H0 H locs) (hM : zMet l dC dI k q y b n rt fr lo As rv X M X' M') (hcode : Cond.code y b n rt ∈ zB) (hl : Cond.methodLink own index y ∈ zB) (hi : Cond.static y ∈ zB) (hini : Cond.initialized y.cls ∈ zB)
    (hd : y.cls ≠ "java/lang/invoke/MethodHandle" ∧ y.cls ≠ "java/lang/invoke/VarHandle" ∧ (parseMethodDescriptor y.desc).map (fun d => d.parameters.length) = some As.length) (hR : fr + 1 ≤ R.frames ∧ 8 + (n + 11) + lo ≤ R.locals) (hcs : cells ≤ R.cells ∧ slots ≤ R.slots) (hls : ls.size = nL) (hroom : (rest.map fun v => v.category).sum ≤ 8) (hdg : decode cc pc = .ok (.invokestatic index, 3)) {st : List Value} (hst : st = As.reverse ++ rest)
    (kk : ∀ (H1 : Heap) (locs1 : List Loc), zH dC dI k q X' M' A H0 H1 locs1 → W p l e R s m args below meth c H1 locs1 cells slots Q (F0 m (pc + 3) ls (rv.toList ++ rest))) : W p l e R s m args below meth c H locs cells slots Q (F0 m pc ls st) := by
  obtain ⟨hx, hb, hml, hown, hts, hK, hN⟩ := C
  subst hst
  have hG : GoodIn zB (va_wsS own index y (.code y b n rt :: zB)) := by
    intro w hw
    rcases List.mem_append.mp hw with h1 | h1
    · simp only [List.mem_cons, List.not_mem_nil, or_false] at h1
      rcases h1 with rfl | rfl | rfl
      · exact ⟨hl, zB_good hl⟩
      · exact ⟨hi, zB_good hi⟩
      · exact ⟨hini, zB_good hini⟩
    · exact zGood hcode w h1
  have cw := va_cwS (R := R) (own := own) (index := index) (y := y) (bytes := b) (maxL := n) (ret := rt) (rm := { frames := fr, cells := 0, slots := 0, locals := lo }) (mc := 0) (ms := 0) As.length hts hG rfl rfl rfl hd hR
  have pre : PreS s H (zPc dC dI k q X M As) As := ⟨zPc_blind, fun U hU hW => ⟨rfl, by rw [hU]; exact h.1, va_K.moved hW.alike hK, zD_self h.2.1, zNw_warm hW hN⟩⟩
  exact z_after (mc := 0) (ms := 0) (va_runS (As := As) (rest := rest) ⟨hx, hb, hml, hown, hts⟩ hM cw pre (g := F0 m pc ls (As.reverse ++ rest)) rfl rfl hls rfl (lv_room hroom) hdg hcs) rfl h kk
end ZC
