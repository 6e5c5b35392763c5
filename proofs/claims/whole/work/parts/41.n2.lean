/-! contracts of constructors: the fresh object at h0 (its fields e0), behind it the cells Out r -/
def zCon (l : Launch) (dC : Nat → ClassId) (dI : Nat → Nat → Nat) (k : Nat → ClassId) (y : MethodName) (b : ByteArray) (n fr lo mc ms : Nat) (h0 : Nat) (e0 : va_E) (As : List Value) (Out : (Nat → Nat) → va_W) : Prop :=
  ∀ sz, Met l y (.code y b n none :: zB) { frames := fr, cells := mc, slots := ms, locals := lo } (va_Pc (.ref h0 :: As) (fun U => U.heap.size = sz ∧ va_P (dC, dI) zCl [(h0, e0)] U.heap ∧ va_K (dC, dI) zCl (zT k) U ∧ va_AO R_C U ∧ zAI U ∧ ∀ w ∈ zNw, va_Nw w U)) (va_Qv (fun _ : Nat → Nat => True) (fun r t => va_P (dC, dI) zCl (Out r) t.heap ∧ va_D (va_A [(h0, e0)] sz) (Out r)) (va_A [(h0, e0)] sz)) mc ms (va_A [(h0, e0)] sz)
theorem zCon.of {l : Launch} {dC : Nat → ClassId} {dI : Nat → Nat → Nat} {k : Nat → ClassId} {y : MethodName} {b : ByteArray} {n fr lo mc ms : Nat} {h0 : Nat} {e0 : va_E} {As : List Value} {Out : (Nat → Nat) → va_W} (hy : plainName y.cls = true) (hyn : y.name = "<init>") (hn : (lg_sl (.ref h0 :: As)).length ≤ n)
    (body : ∀ (p : Program) (e : Env) (s : State) (m : MethodId) (args : Array Value) (below : List Frame) (meth : Method) (c : Code) (ls : Array Slot) (A : Nat → Prop), zCx p s m args c b n y.cls dC dI k → meth.sig.returnType = none → meth.locks = false → meth.name = "<init>" → va_AO R_C s → zAI s → lv_has ls n (lv_args 0 (.ref h0 :: As)) → va_P (dC, dI) zCl [(h0, e0)] s.heap → va_D A [(h0, e0)] → (∀ q, s.heap.size ≤ q → A q) →
      W p l e { frames := fr, cells := mc, slots := ms, locals := lo } s m args below meth c s.heap [] 0 0 (MQ below (va_Qv (fun _ : Nat → Nat => True) (fun r t => va_P (dC, dI) zCl (Out r) t.heap ∧ va_D A (Out r)) A) args s mc ms A) (F0 m 0 ls [])) : zCon l dC dI k y b n fr lo mc ms h0 e0 As Out := by
  intro sz
  refine Met.ofW (cc := b) (maxL := n) (ret := none) hy rfl ?_
  intro p e s m args below meth c s₁ B hml hv
  obtain ⟨rfl, hsz, hP, hK, hO, hI, hN⟩ := hv
  have hts := atoms_spec (ws := .code y b n none :: zB) B.pre
  have hl := lv_entry (.ref h0 :: As) hn
  have hin : meth.name = "<init>" := (name_of_methodNamed B.named B.method).1.trans hyn
  rw [lg_entry_eq]
  subst hsz
  have hD : va_D (va_A [(h0, e0)] s.heap.size) [(h0, e0)] := ⟨fun i j x z hi hj _ => by
    have a := (List.getElem?_eq_some_iff.mp hi).1
    have b := (List.getElem?_eq_some_iff.mp hj).1
    simp at a b
    omega, fun _ _ hk => va_A.in hk⟩
  exact body p e s m _ below meth c _ _ ⟨B.exec, B.bytes, hml, findClass_of_methodNamed B.named, fun w hw => hts w (List.mem_cons_of_mem _ hw), hK, hN⟩ B.returns B.notSynchronized hin hO hI hl hP hD (fun q h => Or.inr h)
section ZO
variable {p : Program} {l : Launch} {e : Env} {R : Room} {s : State} {m : MethodId} {args : Array Value} {below : List Frame} {meth : Method} {c : Code} {H : Heap} {locs : List Loc} {cells slots : Nat} {Q : State → Prop}
variable {cc : ByteArray} {nL pc : Nat} {ls : Array Slot} {rest : List Value} {own : String} {dC : Nat → ClassId} {dI : Nat → Nat → Nat} {k : Nat → ClassId} {A : Nat → Prop} {H0 : Heap} {ws : va_W}
variable {y : MethodName} {b : ByteArray} {n fr lo mc ms index : Nat} {h0 : Nat} {e0 : va_E} {As : List Value} {Out : (Nat → Nat) → va_W}
theorem z_conret {Out : (Nat → Nat) → va_W} (C : zCx p s m args c cc nL own dC dI k) (r : Nat → Nat) (hP : va_P (dC, dI) zCl (Out r) H) (hD : va_D A (Out r)) (hS : va_S A s.heap H locs) (hr : meth.sig.returnType = none) (hlocks : meth.locks = false) (hdg : decode cc pc = .ok (.return_, 1)) : W p l e R s m args below meth c H locs mc ms (MQ below (va_Qv (fun _ : Nat → Nat => True) (fun r t => va_P (dC, dI) zCl (Out r) t.heap ∧ va_D A (Out r)) A) args s mc ms A) (F0 m pc ls []) :=
  W.vret C.1 C.2.1 hr (fun t ht hW => ⟨⟨r, rfl, trivial, by rw [ht]; exact hP, hD⟩, hS.F ht⟩) hS.2.2 hdg
theorem z_objI (C : zCx p s m args c cc nL own dC dI k) {a : Nat} (hl : Cond.methodLink own index objectInit ∈ zB) (hls : ls.size = nL) (hR : 1 ≤ R.frames ∧ 12 ≤ R.locals) (hdg : decode cc pc = .ok (.invokespecial index, 3)) (kk : W p l e R s m args below meth c H locs cells slots Q (F0 m (pc + 3) ls [])) : W p l e R s m args below meth c H locs cells slots Q (F0 m pc ls [.ref a]) := by
  obtain ⟨hx, hb, hml, hown, hts, hK, hN⟩ := C
  exact W.objInit hx hb hown (hts _ hl) (hts _ im_O_init) (hts _ co_O_init) rfl (by rw [hml]; exact hls) rfl hdg hR.1 (by simpa using hR.2) kk
theorem z_conTail {Out : (Nat → Nat) → va_W} {st0 : List Value} {av : Array Value} (hr : va_Run p l e R s m args below meth c H locs cells slots mc ms (F0 m pc ls st0) rest (va_Qv (fun _ : Nat → Nat => True) (fun r t => va_P (dC, dI) zCl (Out r) t.heap ∧ va_D (va_A [(h0, e0)] H.size) (Out r)) (va_A [(h0, e0)] H.size) av) (va_A [(h0, e0)] H.size)) (hP : va_P (dC, dI) zCl (ws ++ [(h0, e0)]) H) (hD : va_D A (ws ++ [(h0, e0)])) (hS : va_S A H0 H locs) (hA : ∀ q, H0.size ≤ q → A q)
    (kk : ∀ (r : Nat → Nat) (H1 : Heap) (locs1 : List Loc), va_P (dC, dI) zCl (ws ++ Out r) H1 → va_D A (ws ++ Out r) → va_S A H0 H1 locs1 → W p l e R s m args below meth c H1 locs1 (cells + mc) (slots + ms) Q (F0 m (pc + 3) ls rest)) : W p l e R s m args below meth c H locs cells slots Q (F0 m pc ls st0) := by
  have hlast : (ws ++ [(h0, e0)])[ws.length]? = some (h0, e0) := by rw [List.getElem?_append_right (Nat.le_refl _)]; simp
  have hw : ∀ (i : Nat) (x : Nat × va_E), ws[i]? = some x → (ws ++ [(h0, e0)])[i]? = some x ∧ i < ws.length := fun i x hi => by
    have hlt := (List.getElem?_eq_some_iff.mp hi).1
    exact ⟨by rw [List.getElem?_append_left hlt]; exact hi, hlt⟩
  have hFc : ∀ q, va_A [(h0, e0)] H.size q → A q := by
    rintro q (⟨i, e1, hi⟩ | hi)
    · have hlt := (List.getElem?_eq_some_iff.mp hi).1
      simp at hlt
      subst hlt
      cases hi
      exact hD.2 _ _ hlast
    · exact hA q (Nat.le_trans hS.1 hi)
  have hno : ∀ (i : Nat) (x : Nat × va_E), ws[i]? = some x → x.1 < H.size ∧ ¬ va_A [(h0, e0)] H.size x.1 := fun i x hi => by
    obtain ⟨h1, h2⟩ := hw i x hi
    have hlt := (hP i x h1).lt
    refine ⟨hlt, ?_⟩
    rintro (⟨j, e1, hj⟩ | hj)
    · have hl2 := (List.getElem?_eq_some_iff.mp hj).1
      simp at hl2
      subst hl2
      have e2 : (h0, e0) = (x.1, e1) := Option.some.inj hj
      have := hD.1 i ws.length x (h0, e0) h1 hlast (congrArg Prod.fst e2).symm
      omega
    · omega
  refine va_callv hr hS (fun q _ h => hFc q h) hFc (fun r t H1 locs1 ht hvm _ hB hz1 hk1 hS1 => ?_)
  obtain ⟨hP1, hD1⟩ := hB
  rw [ht] at hP1
  refine kk r H1 locs1 (va_P.app (fun i x hi => ?_) hP1) (va_D.app ⟨fun i j x z hi hj hxz => ?_, fun i x hi => ?_⟩ (hD1.weaken (fun i x _ h => hFc _ h)) (fun i j x z hi hj hxz => ?_)) hS1
  · obtain ⟨g1, g2⟩ := hno i x hi
    exact (hP i x (hw i x hi).1).kept (hk1 x.1 g1 g2)
  · exact hD.1 i j x z (hw i x hi).1 (hw j z hj).1 hxz
  · exact hD.2 i x (hw i x hi).1
  · have g2 := (hno i x hi).2
    rw [hxz] at g2
    exact g2 (hD1.2 j z hj)
theorem z_conBlind {av : List Value} {sz : Nat} : FrameBlind (va_Pc av (fun U => U.heap.size = sz ∧ va_P (dC, dI) zCl [(h0, e0)] U.heap ∧ va_K (dC, dI) zCl (zT k) U ∧ va_AO R_C U ∧ zAI U ∧ ∀ w ∈ zNw, va_Nw w U)) := by
  rintro a U g mk ⟨e, hsz, hP, hK, hO, hI, hN⟩
  exact ⟨e, hsz, hP, va_K.moved (u := U) (U := U.calling g mk a) (Vm.Alike.refl U.vm) hK, va_AO.moved (u := U) (U := U.calling g mk a) (Vm.Alike.refl U.vm) hO, zAI.moved (u := U) (U := U.calling g mk a) (Vm.Alike.refl U.vm) hI, fun w hw => va_Nw.same (u := U) (by
    have := (List.mem_filter.mp hw).2
    cases w <;> first | rfl | (simp [zNest] at this)) rfl (hN w hw)⟩
theorem z_conPre (C : zCx p s m args c cc nL own dC dI k) (hO : va_AO R_C s) (hI : zAI s) (hP : va_P (dC, dI) zCl (ws ++ [(h0, e0)]) H) : PreS s H (va_Pc (.ref h0 :: As) (fun U => U.heap.size = H.size ∧ va_P (dC, dI) zCl [(h0, e0)] U.heap ∧ va_K (dC, dI) zCl (zT k) U ∧ va_AO R_C U ∧ zAI U ∧ ∀ w ∈ zNw, va_Nw w U)) (.ref h0 :: As) := by
  obtain ⟨hx, hb, hml, hown, hts, hK, hN⟩ := C
  refine ⟨z_conBlind, fun U hU hW => ⟨rfl, by rw [hU], ?_, va_K.moved hW.alike hK, va_AO.moved hW.alike hO, zAI.moved hW.alike hI, zNw_warm hW hN⟩⟩
  rw [hU]
  intro i x hi
  have hlt := (List.getElem?_eq_some_iff.mp hi).1
  simp at hlt
  subst hlt
  cases hi
  exact hP ws.length _ (by rw [List.getElem?_append_right (Nat.le_refl _)]; simp)
theorem z_conI (C : zCx p s m args c cc nL own dC dI k) (hO : va_AO R_C s) (hI : zAI s) (hP : va_P (dC, dI) zCl (ws ++ [(h0, e0)]) H) (hD : va_D A (ws ++ [(h0, e0)])) (hS : va_S A H0 H locs) (hA : ∀ q, H0.size ≤ q → A q) (hM : zCon l dC dI k y b n fr lo mc ms h0 e0 As Out) (hcode : Cond.code y b n none ∈ zB) (hl : Cond.methodLink own index y ∈ zB) (hi : Cond.instanceMethod y ∈ zB) (hini : Cond.initialized y.cls ∈ zB) (hyn : y.name = "<init>")
    (hd : y.cls ≠ "java/lang/invoke/MethodHandle" ∧ y.cls ≠ "java/lang/invoke/VarHandle" ∧ (parseMethodDescriptor y.desc).map (fun d => d.parameters.length) = some As.length) (hR : fr + 1 ≤ R.frames ∧ 8 + (n + 11) + lo ≤ R.locals) (hcs : cells + mc ≤ R.cells ∧ slots + ms ≤ R.slots) (hls : ls.size = nL) (hroom : (rest.map fun v => v.category).sum ≤ 8) (hdg : decode cc pc = .ok (.invokespecial index, 3)) {st : List Value} (hst : st = As.reverse ++ .ref h0 :: rest)
    (kk : ∀ (r : Nat → Nat) (H1 : Heap) (locs1 : List Loc), va_P (dC, dI) zCl (ws ++ Out r) H1 → va_D A (ws ++ Out r) → va_S A H0 H1 locs1 → W p l e R s m args below meth c H1 locs1 (cells + mc) (slots + ms) Q (F0 m (pc + 3) ls rest)) : W p l e R s m args below meth c H locs cells slots Q (F0 m pc ls st) := by
  have pre := z_conPre (As := As) C hO hI hP
  obtain ⟨hx, hb, hml, hown, hts, hK, hN⟩ := C
  subst hst
  have cw := cwI (R := R) (own := own) (index := index) (y := y) (bytes := b) (maxL := n) (rm := { frames := fr, cells := mc, slots := ms, locals := lo }) (mc := mc) (ms := ms) As.length hts (zGood hcode) rfl rfl rfl (hts _ hini) (hts _ hl) (hts _ hi) hyn hd hR
  exact z_conTail (va_runI (As := As) (rest := rest) ⟨hx, hb, hml, hown, hts⟩ (hM H.size) cw pre (g := F0 m pc ls (As.reverse ++ .ref h0 :: rest)) rfl rfl hls rfl (lv_room hroom) hdg hcs) hP hD hS hA kk
theorem z_conN (C : zCx p s m args c cc nL own dC dI k) (hO : va_AO R_C s) (hI : zAI s) (hP : va_P (dC, dI) zCl (ws ++ [(h0, e0)]) H) (hD : va_D A (ws ++ [(h0, e0)])) (hS : va_S A H0 H locs) (hA : ∀ q, H0.size ≤ q → A q) (hM : zCon l dC dI k y b n fr lo mc ms h0 e0 As Out) (hcode : Cond.code y b n none ∈ zB) {host : String} (hl : Cond.methodLinkNest own index y host ∈ zNw) (hi : Cond.instanceMethod y ∈ zB) (hini : Cond.initialized y.cls ∈ zB) (hyn : y.name = "<init>")
    (hd : y.cls ≠ "java/lang/invoke/MethodHandle" ∧ y.cls ≠ "java/lang/invoke/VarHandle" ∧ (parseMethodDescriptor y.desc).map (fun d => d.parameters.length) = some As.length) (hR : fr + 1 ≤ R.frames ∧ 8 + (n + 11) + lo ≤ R.locals) (hcs : cells + mc ≤ R.cells ∧ slots + ms ≤ R.slots) (hls : ls.size = nL) (hroom : (rest.map fun v => v.category).sum ≤ 8) (hdg : decode cc pc = .ok (.invokespecial index, 3)) {st : List Value} (hst : st = As.reverse ++ .ref h0 :: rest)
    (kk : ∀ (r : Nat → Nat) (H1 : Heap) (locs1 : List Loc), va_P (dC, dI) zCl (ws ++ Out r) H1 → va_D A (ws ++ Out r) → va_S A H0 H1 locs1 → W p l e R s m args below meth c H1 locs1 (cells + mc) (slots + ms) Q (F0 m (pc + 3) ls rest)) : W p l e R s m args below meth c H locs cells slots Q (F0 m pc ls st) := by
  have pre := z_conPre (As := As) C hO hI hP
  obtain ⟨hx, hb, hml, hown, hts, hK, hN⟩ := C
  subst hst
  have cw := va_cnB (R := R) (own := own) (host := host) (index := index) (y := y) (bytes := b) (maxL := n) (ret := none) (rm := { frames := fr, cells := mc, slots := ms, locals := lo }) (mc := mc) (ms := ms) As.length hts (zGood hcode) rfl rfl rfl (hN _ hl) (hts _ hini) hd hR
  exact z_conTail (va_runIN (As := As) (rest := rest) ⟨hx, hb, hml, hown, hts⟩ (hM H.size) ⟨cw, hyn, hts _ hi⟩ pre (g := F0 m pc ls (As.reverse ++ .ref h0 :: rest)) rfl rfl hls rfl (lv_room hroom) hdg hcs) hP hD hS hA kk
end ZO
