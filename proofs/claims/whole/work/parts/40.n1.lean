/-! constructors: new arrays of known classes, an array of arrays, a call of a constructor -/
def zAI (U : State) : Prop := ∃ (c0 c2 : ClassId) (kA : Class), U.vm.findClass (FieldType.array .int).toString = some c0 ∧ U.vm.findClass ("[" ++ (FieldType.array .int).toString) = some c2 ∧ U.vm.classes[c2]? = some kA ∧ kA.kind = .array c0 (.array .int)
theorem zAI.moved {u U : State} (hvm : u.vm.Alike U.vm) (h : zAI u) : zAI U := by
  obtain ⟨c0, c2, kA, h1, h2, h3, h4⟩ := h
  obtain ⟨k', hk', he⟩ := hvm.2.2 _ _ h3
  exact ⟨c0, c2, k', by rw [hvm.findClass]; exact h1, by rw [hvm.findClass]; exact h2, hk', by rw [he]; exact h4⟩
theorem zAI_of {A : Array Value} {U : State} (h : (Cond.arrayOver (.array .int)).before A U = true) : zAI U := by
  simp only [Cond.before, Cond.holds, Cond.value, beq_iff_eq, Option.bind_eq_some_iff, Option.map_eq_some_iff] at h
  obtain ⟨c0, h0, c2, hi, kA, hk, hb⟩ := h
  obtain ⟨hlt, hp, -⟩ := Array.findIdx?_eq_some_iff_getElem.mp hi
  have hkk : U.vm.classes[c2] = kA := (Array.getElem?_eq_some_iff.mp hk).2
  rw [hkk] at hp
  cases hkind : kA.kind with
  | array component ty =>
    rw [hkind] at hb hp
    simp only [Bool.and_eq_true, decide_eq_true_eq, beq_iff_eq] at hb hp
    exact ⟨c0, c2, kA, h0, hb.2, hk, by rw [hkind, hp, hb.1]⟩
  | _ => rw [hkind] at hb; cases hb
section ZN
variable {p : Program} {l : Launch} {e : Env} {R : Room} {s : State} {m : MethodId} {args : Array Value} {below : List Frame} {meth : Method} {c : Code} {H : Heap} {locs : List Loc} {cells slots : Nat} {Q : State → Prop}
variable {cc : ByteArray} {nL pc : Nat} {ls : Array Slot} {rest : List Value} {own : String} {dC : Nat → ClassId} {dI : Nat → Nat → Nat} {k : Nat → ClassId} {A : Nat → Prop} {H0 : Heap} {ws : va_W}
theorem z_newI (C : zCx p s m args c cc nL own dC dI k) (hP : va_P (dC, dI) zCl ws H) (hD : va_D A ws) (hS : va_S A H0 H locs) (hA : ∀ q, H0.size ≤ q → A q) {n : Int32} {N' : Nat} (hn : ¬ n < 0) (hN : n.toNatClampNeg = N') (hbytes : N' * 4 ≤ 536870912) (hcells : cells + 1 ≤ R.cells) (hslots : slots + N' ≤ R.slots) (hdg : decode cc pc = .ok (.newarray .int, 2))
    (kk : ∀ (q : Nat) (H1 : Heap), va_P (dC, dI) zCl (ws ++ [(q, .inl (k 0, N', .inl (fun _ => 0)))]) H1 → va_D A (ws ++ [(q, .inl (k 0, N', .inl (fun _ => 0)))]) → va_S A H0 H1 locs → W p l e R s m args below meth c H1 locs (cells + 1) (slots + N') Q (F0 m (pc + 2) ls (.ref q :: rest))) : W p l e R s m args below meth c H locs cells slots Q (F0 m pc ls (.int n :: rest)) := by
  obtain ⟨hx, hb, hml, hown, hts, hK, hN0⟩ := C
  refine va_newa (atype := .int) (ty := .int) (a0 := (N', .inl (fun _ => 0))) hx hb (hts _ ac_int) rfl hK hP hD hS hA (fun _ => rfl) hn hN hbytes hcells hslots hdg (fun q cA H1 hK1 hP1 hD1 hS1 => ?_)
  have h1 : va_RA s (k 0) .int := (hK1.2 0 (k 0, .int) rfl).2
  have h2 : va_RA s cA .int := (hK1.2 4 (cA, .int) rfl).2
  have e : cA = k 0 := Option.some.inj (Eq.trans (Eq.symm h2) h1)
  rw [e] at hP1 hD1
  exact kk q H1 hP1 hD1 hS1
theorem z_newZ (C : zCx p s m args c cc nL own dC dI k) (hP : va_P (dC, dI) zCl ws H) (hD : va_D A ws) (hS : va_S A H0 H locs) (hA : ∀ q, H0.size ≤ q → A q) {n : Int32} {N' : Nat} (hn : ¬ n < 0) (hN : n.toNatClampNeg = N') (hbytes : N' * 1 ≤ 536870912) (hcells : cells + 1 ≤ R.cells) (hslots : slots + N' ≤ R.slots) (hdg : decode cc pc = .ok (.newarray .boolean, 2))
    (kk : ∀ (q : Nat) (H1 : Heap), va_P (dC, dI) zCl (ws ++ [(q, .inl (k 1, N', .inl (fun _ => 0)))]) H1 → va_D A (ws ++ [(q, .inl (k 1, N', .inl (fun _ => 0)))]) → va_S A H0 H1 locs → W p l e R s m args below meth c H1 locs (cells + 1) (slots + N') Q (F0 m (pc + 2) ls (.ref q :: rest))) : W p l e R s m args below meth c H locs cells slots Q (F0 m pc ls (.int n :: rest)) := by
  obtain ⟨hx, hb, hml, hown, hts, hK, hN0⟩ := C
  refine va_newa (atype := .boolean) (ty := .boolean) (a0 := (N', .inl (fun _ => 0))) hx hb (hts _ ac_boolean) rfl hK hP hD hS hA (fun _ => rfl) hn hN hbytes hcells hslots hdg (fun q cA H1 hK1 hP1 hD1 hS1 => ?_)
  have h1 : va_RA s (k 1) .boolean := (hK1.2 1 (k 1, .boolean) rfl).2
  have h2 : va_RA s cA .boolean := (hK1.2 4 (cA, .boolean) rfl).2
  have e : cA = k 1 := Option.some.inj (Eq.trans (Eq.symm h2) h1)
  rw [e] at hP1 hD1
  exact kk q H1 hP1 hD1 hS1
theorem z_newQ (C : zCx p s m args c cc nL own dC dI k) (hO : va_AO R_C s) (hP : va_P (dC, dI) zCl ws H) (hD : va_D A ws) (hS : va_S A H0 H locs) (hA : ∀ q, H0.size ≤ q → A q) {index : Nat} (hcl : (Cond.classLink own index R_C) ∈ zB) {n : Int32} {N' : Nat} (hn : ¬ n < 0) (hN : n.toNatClampNeg = N') (hbytes : N' * 4 ≤ 536870912) (hcells : cells + 1 ≤ R.cells) (hslots : slots + N' ≤ R.slots) (hdg : decode cc pc = .ok (.anewarray index, 3))
    (kk : ∀ (q : Nat) (H1 : Heap), va_P (dC, dI) zCl (ws ++ [(q, .inl (k 3, N', .inr (.inr (.inr (.inr (fun _ => none))))))]) H1 → va_D A (ws ++ [(q, .inl (k 3, N', .inr (.inr (.inr (.inr (fun _ => none))))))]) → va_S A H0 H1 locs → W p l e R s m args below meth c H1 locs (cells + 1) (slots + N') Q (F0 m (pc + 3) ls (.ref q :: rest))) : W p l e R s m args below meth c H locs cells slots Q (F0 m pc ls (.int n :: rest)) := by
  obtain ⟨hx, hb, hml, hown, hts, hK, hN0⟩ := C
  refine va_newq hx hb hown (hts _ hcl) hO hK hP hD hS hA hn hN hbytes hcells hslots hdg (fun q cA H1 hK1 hP1 hD1 hS1 => ?_)
  obtain ⟨_, _, -, -, -, h1⟩ := (hK1.2 3 (k 3, .object R_C) rfl).2
  obtain ⟨_, _, -, -, -, h2⟩ := (hK1.2 4 (cA, .object R_C) rfl).2
  have e : cA = k 3 := Option.some.inj (h2.symm.trans h1)
  rw [e] at hP1 hD1
  exact kk q H1 hP1 hD1 hS1
theorem z_mna (C : zCx p s m args c cc nL own dC dI k) (hO : zAI s) (hP : va_P (dC, dI) zCl ws H) (hD : va_D A ws) (hS : va_S A H0 H locs) (hA : ∀ q, H0.size ≤ q → A q) {index : Nat} (hcl : (Cond.classLink own index "[[I") ∈ zB) {n j : Int32} {N' K' : Nat} (hn : ¬ n < 0) (hj : ¬ j < 0) (hN : n.toNatClampNeg = N') (hM : j.toNatClampNeg = K') (hb1 : N' * 4 ≤ 536870912) (hb2 : K' * 4 ≤ 536870912) (hcells : cells + (1 + N') ≤ R.cells) (hslots : slots + (N' + N' * K') ≤ R.slots) (hdg : decode cc pc = .ok (.multianewarray index 2, 4))
    (kk : ∀ (q : Nat) (H1 : Heap), va_P (dC, dI) zCl (ws ++ ((q, .inl (k 2, N', .inr (.inr (.inr (.inr (fun i => some (q + 1 + i))))))) :: (List.range N').map (fun i => (q + 1 + i, .inl (k 0, K', .inl (fun _ => 0)))))) H1 → va_D A (ws ++ ((q, .inl (k 2, N', .inr (.inr (.inr (.inr (fun i => some (q + 1 + i))))))) :: (List.range N').map (fun i => (q + 1 + i, .inl (k 0, K', .inl (fun _ => 0)))))) → va_S A H0 H1 locs → W p l e R s m args below meth c H1 locs (cells + 1 + N') (slots + N' + N' * K') Q (F0 m (pc + 4) ls (.ref q :: rest))) : W p l e R s m args below meth c H locs cells slots Q (F0 m pc ls (.int j :: .int n :: rest)) := by
  obtain ⟨hx, hb, hml, hown, hts, hK, hN0⟩ := C
  subst hN
  subst hM
  intro T hT Xs
  obtain ⟨c0', c2', kA, f0, f2', hkA, hkindA⟩ := hO
  have h0 : va_RA s (k 0) .int := (hK.2 0 (k 0, .int) rfl).2
  have h2 : va_RA s (k 2) (.array .int) := (hK.2 2 (k 2, .array .int) rfl).2
  have e0 : c0' = k 0 := Option.some.inj (Eq.trans (Eq.symm f0) h0)
  have e2 : c2' = k 2 := Option.some.inj (Eq.trans (Eq.symm f2') h2)
  subst e0; subst e2
  obtain ⟨-, kC, hkC, cz, hkindC⟩ := (hK.2 0 (k 0, .int) rfl).1 0 (fun _ => .null)
  obtain ⟨F, X', f1, f2, hold, hrow, step⟩ := zf_go Xs hx hown (hts _ hcl) (show s.vm.findClass "[[I" = some (k 2) from f2') hkA hkindA hkC hkindC (pc := pc) (ls := ls) (rest := rest) (by rw [hb]; exact hdg) hn hj hb1 hb2 hcells hslots
  have ee : T.heap.size = H.size := by rw [hT]
  rw [show zfO (k 2) n.toNatClampNeg T.heap.size n.toNatClampNeg = arrV (k 2) n.toNatClampNeg (fun i => .ref (T.heap.size + 1 + i)) from arrV_ext fun i hi => by rw [if_pos hi]] at f2
  rw [hT] at f1 f2 hold hrow step
  generalize hnn : n.toNatClampNeg = N at *
  generalize hjj : j.toNatClampNeg = K at *
  have hnew : ∀ (i : Nat) (x : Nat × va_E), (((H.size, .inl (k 2, N, .inr (.inr (.inr (.inr (fun i => some (H.size + 1 + i))))))) :: (List.range N).map (fun i => (H.size + 1 + i, .inl (k 0, K, .inl (fun _ => 0))))) : va_W)[i]? = some x → x.1 = H.size + i ∧ va_at (dC, dI) zCl x F.heap := by
    intro i x hx
    cases i with
    | zero =>
      cases hx
      exact ⟨rfl, f2⟩
    | succ i =>
      rw [List.getElem?_cons_succ, List.getElem?_map] at hx
      by_cases hi : i < N
      · rw [List.getElem?_range hi] at hx
        cases hx
        exact ⟨by show H.size + 1 + i = _; omega, hrow i hi⟩
      · rw [List.getElem?_eq_none (by rw [List.length_range]; omega)] at hx
        cases hx
  have hP1 := (hP.kept (H1 := F.heap) (fun i x hx => hold x.1 ((hP i x hx).lt))).app (w2 := (H.size, .inl (k 2, N, .inr (.inr (.inr (.inr (fun i => some (H.size + 1 + i))))))) :: (List.range N).map (fun i => (H.size + 1 + i, .inl (k 0, K, .inl (fun _ => 0))))) (fun i x hx => (hnew i x hx).2)
  have hD1 : va_D A (ws ++ ((H.size, .inl (k 2, N, .inr (.inr (.inr (.inr (fun i => some (H.size + 1 + i))))))) :: (List.range N).map (fun i => (H.size + 1 + i, .inl (k 0, K, .inl (fun _ => 0)))))) := by
    refine hD.app ⟨fun i i' x y hi hi' hxy => ?_, fun i x hi => ?_⟩ (fun i i' x y hi hi' hxy => ?_)
    · have a1 := (hnew i x hi).1
      have a2 := (hnew i' y hi').1
      omega
    · have a1 := (hnew i x hi).1
      exact hA _ (by have := hS.1; omega)
    · have a1 := (hP i x hi).lt
      have a2 := (hnew i' y hi').1
      omega
  obtain ⟨t, a1, b1⟩ := kk H.size F.heap hP1 hD1 ⟨by rw [f1]; have := hS.1; omega, fun x h1 h2 => (hold x (Nat.lt_of_lt_of_le h1 hS.1)).trans (hS.2.1 x h1 h2), hS.2.2⟩ F rfl X'
  exact ⟨t, step t a1, b1⟩
end ZN
