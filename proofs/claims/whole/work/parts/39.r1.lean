/-! an array of arrays of int: the state that it leaves, and that the machine comes there -/
theorem arrV_ext {cA : ClassId} {N : Nat} {f g : Nat → Value} (h : ∀ j, j < N → f j = g j) : arrV cA N f = arrV cA N g := by
  unfold arrV
  rw [show (fun j : Fin N => f j.val) = (fun j : Fin N => g j.val) from funext fun j => h j.val j.isLt]
def zfO (c2 : ClassId) (N h i : Nat) : Cell := arrV c2 N (fun j => if j < i then .ref (h + 1 + j) else .null)
def zfI (c0 : ClassId) (K : Nat) : Cell := arrV c0 K (fun _ => .int 0)
def zfS (U : State) (c2 c0 : ClassId) (N K : Nat) : Nat → State
  | 0 => U.pushCell (zfO c2 N U.heap.size 0)
  | i + 1 => ((zfS U c2 c0 N K i).pushCell (zfI c0 K)).setCell U.heap.size (zfO c2 N U.heap.size (i + 1))
theorem zfO_put (c2 : ClassId) (N h i : Nat) : (zfO c2 N h i).setSlot i (.ref (h + 1 + i)) = zfO c2 N h (i + 1) := by
  unfold zfO
  rw [arrV_store]
  refine arrV_ext fun j _ => ?_
  by_cases z : j = i
  · rw [z]; simp [updV]
  · have : (j < i + 1) ↔ j < i := by omega
    simp [updV, z, this]
theorem zf_at (U : State) (c2 c0 : ClassId) (N K : Nat) : ∀ i, (zfS U c2 c0 N K i).heap.size = U.heap.size + 1 + i ∧ (zfS U c2 c0 N K i).heap[U.heap.size]? = some (zfO c2 N U.heap.size i) ∧ (zfS U c2 c0 N K i).vm = U.vm ∧ (∀ a, a < U.heap.size → (zfS U c2 c0 N K i).heap[a]? = U.heap[a]?) ∧ ∀ j, j < i → (zfS U c2 c0 N K i).heap[U.heap.size + 1 + j]? = some (zfI c0 K)
  | 0 => by
    refine ⟨?_, State.heap_pushCell_size _ _, rfl, fun a ha => State.heap_pushCell_of_lt _ _ ha, fun j hj => absurd hj (Nat.not_lt_zero _)⟩
    show (U.heap.push _).size = _
    simp
  | i + 1 => by
    obtain ⟨a1, a2, a3, a4, a5⟩ := zf_at U c2 c0 N K i
    have hlt : U.heap.size < (zfS U c2 c0 N K i).heap.size := by rw [a1]; omega
    have hself : ((zfS U c2 c0 N K i).pushCell (zfI c0 K)).heap[U.heap.size]? = some (zfO c2 N U.heap.size i) := by rw [State.heap_pushCell_of_lt _ _ hlt]; exact a2
    have oth : ∀ a, a ≠ U.heap.size → (zfS U c2 c0 N K (i + 1)).heap[a]? = ((zfS U c2 c0 N K i).pushCell (zfI c0 K)).heap[a]? := fun a ha => State.heap_setCell_other (Ne.symm ha)
    refine ⟨?_, State.heap_setCell_self hself, a3, fun a ha => ?_, fun j hj => ?_⟩
    · show (((zfS U c2 c0 N K i).heap.push _).setIfInBounds _ _).size = _
      simp [a1]; omega
    · have hla : a < (zfS U c2 c0 N K i).heap.size := by rw [a1]; omega
      rw [oth a (by omega), State.heap_pushCell_of_lt _ _ hla]
      exact a4 a ha
    · rw [oth _ (by omega)]
      by_cases z : j = i
      · rw [z, ← a1]; exact State.heap_pushCell_size _ _
      · have hlj : U.heap.size + 1 + j < (zfS U c2 c0 N K i).heap.size := by rw [a1]; omega
        rw [State.heap_pushCell_of_lt _ _ hlj]
        exact a5 j (by omega)
theorem zf_top (U : State) (f : JFrame) (c2 c0 : ClassId) (N K : Nat) : ∀ i, zfS (U.setTop f) c2 c0 N K i = (zfS U c2 c0 N K i).setTop f
  | 0 => rfl
  | i + 1 => by
    have ih := zf_top U f c2 c0 N K i
    show ((zfS (U.setTop f) c2 c0 N K i).pushCell _).setCell _ _ = _
    rw [ih]
    rfl
section ZF
variable {p : Program} {l : Launch} {e : Env} {R : Room} {s : State} {m : MethodId} {args : Array Value} {below : List Frame} {meth : Method} {c : Code} {T : State} {locs : List Loc} {cells slots : Nat}
theorem zf_stand {U : State} (X : Stand p l e R s m args below meth c U locs cells slots) (c2 c0 : ClassId) (N K : Nat) : ∀ i, ∃ J : List Loc, (∀ x ∈ J, x.base = U.heap.size) ∧ Stand p l e R s m args below meth c (zfS U c2 c0 N K i) (locs ++ J) (cells + 1 + i) (slots + N + i * K)
  | 0 => by
    have h := X.pushed (zfO c2 N U.heap.size 0)
    have e1 : (zfO c2 N U.heap.size 0).slots.size = N := arrV_size _ _ _
    rw [e1] at h
    refine ⟨[], fun x hx => absurd hx List.not_mem_nil, ?_⟩
    rw [List.append_nil, Nat.zero_mul]
    exact h
  | i + 1 => by
    obtain ⟨J, hJ, Xi⟩ := zf_stand X c2 c0 N K i
    obtain ⟨a1, a2, a3, a4, a5⟩ := zf_at U c2 c0 N K i
    have hlt : U.heap.size < (zfS U c2 c0 N K i).heap.size := by rw [a1]; omega
    have h := (Xi.pushed (zfI c0 K)).stored (a := U.heap.size) (cell := zfO c2 N U.heap.size i) (by rw [State.heap_pushCell_of_lt _ _ hlt]; exact a2) i (.ref (U.heap.size + 1 + i))
    have e1 : (zfI c0 K).slots.size = K := arrV_size _ _ _
    rw [zfO_put, e1, List.append_assoc] at h
    refine ⟨J ++ [⟨U.heap.size, i⟩], fun x hx => ?_, ?_⟩
    · rcases List.mem_append.mp hx with z | z
      · exact hJ x z
      · rw [List.mem_singleton.mp z]
    · rw [show slots + N + (i + 1) * K = slots + N + i * K + K by rw [Nat.succ_mul]; omega]
      exact h
theorem zf_make {E : CtlPost} {d : Bool} {acts : List Action} {U : State} {c2 c0 cz : ClassId} {kA kC : Class} {n j : Int32} (hkA : U.vm.classes[c2]? = some kA) (hkindA : kA.kind = .array c0 (.array .int)) (hkC : U.vm.classes[c0]? = some kC) (hkindC : kC.kind = .array cz .int) (hn : ¬ n < 0) (hj : ¬ j < 0)
    (hl1 : ¬ n.toNatClampNeg > e.platform.arrayLengthLimit) (hh1 : ¬ n.toNatClampNeg * 4 > e.platform.maxHeapBytes) (hl2 : ¬ j.toNatClampNeg > e.platform.arrayLengthLimit) (hh2 : ¬ j.toNatClampNeg * 4 > e.platform.maxHeapBytes)
    (hr0 : U.heap.size < e.platform.maxCells ∧ U.slotsUsed + n.toNatClampNeg ≤ e.platform.maxSlots) (hr : ∀ i, i < n.toNatClampNeg → (zfS U c2 c0 n.toNatClampNeg j.toNatClampNeg i).heap.size < e.platform.maxCells ∧ (zfS U c2 c0 n.toNatClampNeg j.toNatClampNeg i).slotsUsed + j.toNatClampNeg ≤ e.platform.maxSlots)
    {Q : Addr → Pre} (hq : ∀ d' acts', Q U.heap.size d' acts' (zfS U c2 c0 n.toNatClampNeg j.toNatClampNeg n.toNatClampNeg)) : wp (multianewarray.make c2 [n, j]) Q E e d acts U := by
  have hfind : ([j].find? (· < 0)) = none := by simp [hj]
  rw [multianewarray.make]
  simp only [wp_bind', W.ite, hn, if_false, wp_pure', W.theClass, hkA, hkindA, Option.some.injEq, exists_eq_left']
  refine W.newArray_of hkA hkindA hl1 hh1 hr0.1 hr0.2 rfl (fun acts1 => ?_)
  have e0 : U.pushCell { cls := c2, slots := Array.replicate n.toNatClampNeg .null } = zfS U c2 c0 n.toNatClampNeg j.toNatClampNeg 0 := by
    show _ = U.pushCell (zfO c2 n.toNatClampNeg U.heap.size 0)
    have := arrV_new c2 n.toNatClampNeg Value.null
    rw [show zfO c2 n.toNatClampNeg U.heap.size 0 = arrV c2 n.toNatClampNeg (fun _ => Value.null) from arrV_ext fun j _ => by rw [if_neg (by omega)], ← this]
  rw [e0]
  simp only [hfind]
  rw [ite_self, wp_bind', Std.Legacy.Range.forIn_eq_forIn_range']
  rw [show ([:n.toNatClampNeg] : Std.Legacy.Range).size = n.toNatClampNeg by simp [Std.Legacy.Range.size]]
  generalize hN : n.toNatClampNeg = N at *
  generalize hK : j.toNatClampNeg = K at *
  refine wp_forIn_inv (fun rest s' => ∃ i, i ≤ N ∧ rest = List.range' i (N - i) ∧ s' = zfS U c2 c0 N K i) _ _ ⟨0, Nat.zero_le _, rfl, rfl⟩ ?_ ?_
  · rintro x rest s' d' acts' Q' ⟨i, hi, hrest, rfl⟩ hnext
    have hlt : i < N := by
      by_cases z : i < N
      · exact z
      · rw [show N - i = 0 by omega] at hrest; cases hrest
    rw [show N - i = (N - (i + 1)) + 1 by omega, List.range'_succ] at hrest
    injection hrest with hx hrest
    subst hx
    obtain ⟨a1, a2, a3, a4, a5⟩ := zf_at U c2 c0 N K x
    have hlt0 : U.heap.size < (zfS U c2 c0 N K x).heap.size := by rw [a1]; omega
    simp only [wp_bind']
    rw [multianewarray.make]
    simp only [wp_bind', W.ite, hj, if_false, wp_pure', W.theClass, a3, hkC, hkindC, Option.some.injEq, exists_eq_left', hK]
    refine W.newArray_of (by rw [a3]; exact hkC) hkindC hl2 hh2 (hr x hlt).1 (hr x hlt).2 rfl (fun acts2 => ?_)
    have e1 : (zfS U c2 c0 N K x).pushCell { cls := c0, slots := Array.replicate K (defaultValue .int) } = (zfS U c2 c0 N K x).pushCell (zfI c0 K) := congrArg _ (arrV_new c0 K (.int 0))
    rw [e1]
    simp only [wp_bind', W.writeLoc, wp_pure']
    refine ⟨zfO c2 N U.heap.size x, by rw [State.heap_pushCell_of_lt _ _ hlt0]; exact a2, by simp [zfO, arrV], by rw [show (zfO c2 N U.heap.size x).slots.size = N from arrV_size _ _ _]; exact hlt, ?_, hnext _ _ _ ⟨x + 1, hlt, hrest, ?_⟩⟩
    · show State.fitsSlot _ c2 .none x _ = true
      simp [State.fitsSlot, State.slotType?, a3, hkA, hkindA]
      rfl
    · rw [a1, zfO_put]; rfl
  · rintro s' d' acts' ⟨i, hi, hrest, rfl⟩
    have hiN : i = N := by
      by_cases z : i < N
      · rw [show N - i = (N - (i + 1)) + 1 by omega, List.range'_succ] at hrest; cases hrest
      · omega
    subst hiN
    simp only [wp_pure']
    exact hq _ _
theorem zf_go (X : Stand p l e R s m args below meth c T locs cells slots) (hexec : p.tables.exec = Jvm.exec) {own : String} {index : Nat} {c2 c0 cz : ClassId} {kA kC : Class} (hown : s.vm.findClass own = some m.cls) (hclink : (Cond.classLink own index "[[I").before args s = true) (fc2 : s.vm.findClass "[[I" = some c2) (hkA : s.vm.classes[c2]? = some kA) (hkindA : kA.kind = .array c0 (.array .int)) (hkC : s.vm.classes[c0]? = some kC) (hkindC : kC.kind = .array cz .int)
    {pc : Nat} {ls : Array Slot} {rest : List Value} {n j : Int32} (hdg : decode c.code pc = .ok (.multianewarray index 2, 4)) (hn : ¬ n < 0) (hj : ¬ j < 0) (hb1 : n.toNatClampNeg * 4 ≤ 536870912) (hb2 : j.toNatClampNeg * 4 ≤ 536870912) (hcells : cells + (1 + n.toNatClampNeg) ≤ R.cells) (hslots : slots + (n.toNatClampNeg + n.toNatClampNeg * j.toNatClampNeg) ≤ R.slots) :
    ∃ F : State, Stand p l e R s m args below meth c F locs (cells + 1 + n.toNatClampNeg) (slots + n.toNatClampNeg + n.toNatClampNeg * j.toNatClampNeg) ∧ F.heap.size = T.heap.size + 1 + n.toNatClampNeg ∧ F.heap[T.heap.size]? = some (zfO c2 n.toNatClampNeg T.heap.size n.toNatClampNeg) ∧ (∀ a, a < T.heap.size → F.heap[a]? = T.heap[a]?) ∧ (∀ i, i < n.toNatClampNeg → F.heap[T.heap.size + 1 + i]? = some (zfI c0 j.toNatClampNeg)) ∧
      ∀ target, Steps p.tables e below (F.setTop (F0 m (pc + 4) ls (.ref T.heap.size :: rest))) target → Steps p.tables e below (T.setTop (F0 m pc ls (.int j :: .int n :: rest))) target := by
  have hpl : e.platform.magicAccessors = ({} : Platform).magicAccessors := by rw [X.admits.platform]
  obtain ⟨cl, hfcl, hcl⟩ := Cond.classLink_spec hown hclink e.platform hpl
  cases fc2.symm.trans hfcl
  obtain ⟨hg₁, hwarm₁, hready₁⟩ := State.classEntry (e := e) X.warmed hcl
  generalize T.vm.noted m.cls index (.cls c2) = vm₁ at hg₁ hwarm₁ hready₁
  have hal : s.vm.Alike vm₁ := hwarm₁.alike
  obtain ⟨kA₁, hkA₁, heA⟩ := hal.2.2 _ _ hkA
  obtain ⟨kC₁, hkC₁, heC⟩ := hal.2.2 _ _ hkC
  have hkindA₁ : kA₁.kind = .array c0 (.array .int) := by rw [heA]; exact hkindA
  have hkindC₁ : kC₁.kind = .array cz .int := by rw [heC]; exact hkindC
  have X₁ := X.noted hwarm₁
  have st := zf_stand X₁ c2 c0 n.toNatClampNeg j.toNatClampNeg
  obtain ⟨J, hJ, XF⟩ := st n.toNatClampNeg
  obtain ⟨f1, f2, -, f4, f5⟩ := zf_at (T.setVm vm₁) c2 c0 n.toNatClampNeg j.toNatClampNeg n.toNatClampNeg
  have room : ∀ i, i < n.toNatClampNeg → (zfS (T.setVm vm₁) c2 c0 n.toNatClampNeg j.toNatClampNeg i).heap.size + 1 ≤ e.platform.maxCells ∧ (zfS (T.setVm vm₁) c2 c0 n.toNatClampNeg j.toNatClampNeg i).slotsUsed + j.toNatClampNeg ≤ e.platform.maxSlots := by
    intro i hi
    obtain ⟨Ji, -, Xi⟩ := st i
    refine Xi.roomAbove (by omega) ?_
    have := Nat.mul_le_mul_right j.toNatClampNeg (show i + 1 ≤ n.toNatClampNeg from hi)
    rw [Nat.succ_mul] at this
    omega
  refine ⟨zfS (T.setVm vm₁) c2 c0 n.toNatClampNeg j.toNatClampNeg n.toNatClampNeg, XF.dropFresh (fun x hx => by rw [hJ x hx]; exact X.heapGrown), f1, f2, f4, f5, fun target hrest => ?_⟩
  obtain ⟨g1, g2⟩ := X₁.roomAbove (a := 1) (b := n.toNatClampNeg) (by omega) (by have := Nat.zero_le (n.toNatClampNeg * j.toNatClampNeg); omega)
  have hl : e.platform.arrayLengthLimit = _ := Launch.admits_arrayLengthLimit X.admits
  have hm : e.platform.maxHeapBytes = _ := Launch.admits_maxHeapBytes X.admits
  jvm_step X.here [hexec, hdg]
  simp only [multianewarray.sem, wp_bind', W.resolveClassAt_links (State.method?_setTop (F0 m pc ls (.int j :: .int n :: rest)) X.here.top) hg₁]
  rw [W.popN, if_neg (by decide)]
  refine ⟨F0 m pc ls (.int j :: .int n :: rest), State.topJava?_setTop' (s := T.setVm vm₁) _ X.here.top, [.int n, .int j], rest, rfl, rfl, ?_⟩
  simp only [List.mapM_cons, List.mapM_nil, wp_bind', wp_pure']
  have eS : ((T.setTop (F0 m pc ls (.int j :: .int n :: rest))).setVm vm₁).setTop { F0 m pc ls (.int j :: .int n :: rest) with stack := rest } = (T.setVm vm₁).setTop { F0 m pc ls (.int j :: .int n :: rest) with stack := rest } := by
    show ((T.setVm vm₁).setTop _).setTop _ = _
    rw [State.setTop_setTop]
  rw [eS]
  refine zf_make (U := (T.setVm vm₁).setTop { F0 m pc ls (.int j :: .int n :: rest) with stack := rest }) (kA := kA₁) (kC := kC₁) (c0 := c0) (cz := cz) hkA₁ hkindA₁ hkC₁ hkindC₁ hn hj (by rw [hl]; omega) (by rw [hm]; omega) (by rw [hl]; omega) (by rw [hm]; omega) ⟨g1, g2⟩ (fun i hi => by rw [zf_top]; exact room i hi) (fun d' acts' => ?_)
  rw [zf_top]
  simp only [wp_bind', W.mark, W.pushRef, State.topJava?_setTop' _ XF.here.top, Option.some.injEq, exists_eq_left', State.setTop_setTop, State.heap_setTop]
  intro acts
  simp [jvm, XF.here.top]
  exact hrest
end ZF
