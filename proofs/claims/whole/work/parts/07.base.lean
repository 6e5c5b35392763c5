/-! The world: the class's cells (places 0 .. 36) and the model's (37 .. 59), at the addresses q 0, q 1 ..
X tag row index (the class): 0 parts 1 tallies 2 count 3 states 4 values 5 owed 6 waiting 7 operation 8 operand 9 finished 10 latestResult 11 memories 12 keepings 13 owners 14 sharers
M tag index (the model): its fields in their order (15: rows) -/
abbrev zXS : Type := Nat → Nat → Nat → Int32
abbrev zMS : Type := Nat → Nat → Int32
def u3 (X : zXS) (t c l : Nat) (v : Int32) : zXS := fun t' => if t' = t then (fun c' => if c' = c then upd (X t' c') l v else X t' c') else X t'
def u2 (M : zMS) (t i : Nat) (v : Int32) : zMS := fun t' => if t' = t then upd (M t') i v else M t'
abbrev zCl : List vw_C := [(R_S, F_S, 3), (R_A, F_A, 3), (R_C, F_C, 10), (R_H, F_H, 5), (R_M, F_M, 23)]
abbrev zT (k : Nat → ClassId) : List (ClassId × FieldType) := [(k 0, .int), (k 1, .boolean), (k 2, .array .int), (k 3, .object R_C)]
abbrev zcf (q : Nat → Nat) (X : zXS) (c : Nat) : List Value := [.int (nI c), .ref (q 1), .ref (q (17 + 4 * c)), .ref (q (18 + 4 * c)), .ref (q (19 + 4 * c)), .int (X 6 c 0), .int (X 7 c 0), .int (X 8 c 0), .int (X 9 c 0), .int (X 10 c 0)]
def zW (q : Nat → Nat) (k : Nat → ClassId) (X : zXS) (M : zMS) : va_W := [(q 0, .inr (0, [.ref (q 1), .ref (q 15), .ref (q 32)])), (q 1, .inr (1, [.ref (q 2), .ref (q 10), .int (X 2 0 0)])), (q 2, .inl (k 2, 7, .inr (.inr (.inr (.inr (fun i => some (q (3 + i)))))))), (q 3, .inl (k 0, 64, .inl (X 0 0))), (q 4, .inl (k 0, 64, .inl (X 0 1))), (q 5, .inl (k 0, 64, .inl (X 0 2))), (q 6, .inl (k 0, 64, .inl (X 0 3))), (q 7, .inl (k 0, 64, .inl (X 0 4))), (q 8, .inl (k 0, 64, .inl (X 0 5))), (q 9, .inl (k 0, 64, .inl (X 0 6))), (q 10, .inl (k 2, 4, .inr (.inr (.inr (.inr (fun i => some (q (11 + i)))))))), (q 11, .inl (k 0, 4, .inl (X 1 0))), (q 12, .inl (k 0, 4, .inl (X 1 1))), (q 13, .inl (k 0, 4, .inl (X 1 2))), (q 14, .inl (k 0, 4, .inl (X 1 3))), (q 15, .inl (k 3, 4, .inr (.inr (.inr (.inr (fun i => some (q (16 + 4 * i)))))))), (q 16, .inr (2, zcf q X 0)), (q 17, .inl (k 0, 4, .inl (X 3 0))), (q 18, .inl (k 0, 4, .inl (X 4 0))), (q 19, .inl (k 0, 4, .inl (X 5 0))), (q 20, .inr (2, zcf q X 1)), (q 21, .inl (k 0, 4, .inl (X 3 1))), (q 22, .inl (k 0, 4, .inl (X 4 1))), (q 23, .inl (k 0, 4, .inl (X 5 1))), (q 24, .inr (2, zcf q X 2)), (q 25, .inl (k 0, 4, .inl (X 3 2))), (q 26, .inl (k 0, 4, .inl (X 4 2))), (q 27, .inl (k 0, 4, .inl (X 5 2))), (q 28, .inr (2, zcf q X 3)), (q 29, .inl (k 0, 4, .inl (X 3 3))), (q 30, .inl (k 0, 4, .inl (X 4 3))), (q 31, .inl (k 0, 4, .inl (X 5 3))), (q 32, .inr (3, [.ref (q 1), .ref (q 33), .ref (q 34), .ref (q 35), .ref (q 36)])), (q 33, .inl (k 0, 4, .inl (X 11 0))), (q 34, .inl (k 0, 4, .inl (X 12 0))), (q 35, .inl (k 0, 4, .inl (X 13 0))), (q 36, .inl (k 0, 4, .inl (X 14 0))), (q 37, .inr (4, [.ref (q 38), .ref (q 39), .ref (q 40), .ref (q 41), .ref (q 42), .ref (q 43), .ref (q 44), .ref (q 45), .ref (q 46), .ref (q 47), .ref (q 48), .ref (q 49), .ref (q 50), .ref (q 51), .ref (q 52), .int (M 15 0), .ref (q 53), .ref (q 54), .ref (q 55), .ref (q 56), .ref (q 57), .ref (q 58), .ref (q 59)])), (q 38, .inl (k 0, 16, .inl (M 0))), (q 39, .inl (k 0, 16, .inl (M 1))), (q 40, .inl (k 0, 16, .inl (M 2))), (q 41, .inl (k 0, 16, .inl (M 3))), (q 42, .inl (k 0, 16, .inl (M 4))), (q 43, .inl (k 1, 4, .inl (M 5))), (q 44, .inl (k 0, 4, .inl (M 6))), (q 45, .inl (k 0, 4, .inl (M 7))), (q 46, .inl (k 0, 4, .inl (M 8))), (q 47, .inl (k 0, 4, .inl (M 9))), (q 48, .inl (k 0, 4, .inl (M 10))), (q 49, .inl (k 0, 4, .inl (M 11))), (q 50, .inl (k 0, 4, .inl (M 12))), (q 51, .inl (k 0, 4, .inl (M 13))), (q 52, .inl (k 0, 4, .inl (M 14))), (q 53, .inl (k 0, 200, .inl (M 16))), (q 54, .inl (k 0, 200, .inl (M 17))), (q 55, .inl (k 0, 200, .inl (M 18))), (q 56, .inl (k 0, 200, .inl (M 19))), (q 57, .inl (k 0, 200, .inl (M 20))), (q 58, .inl (k 0, 200, .inl (M 21))), (q 59, .inl (k 0, 200, .inl (M 22)))]
def zNest : Cond → Bool
  | .fieldLinkNest .. => true
  | .methodLinkNest .. => true
  | _ => false
def zNw : List Cond := lw_tbl.filter zNest
def zA (q : Nat → Nat) : Nat → Prop := fun a => ∃ i, i < 60 ∧ a = q i
def zCx (p : Program) (s : State) (m : MethodId) (args : Array Value) (c : Code) (cc : ByteArray) (nL : Nat) (own : String) (dC : Nat → ClassId) (dI : Nat → Nat → Nat) (k : Nat → ClassId) : Prop :=
  p.tables.exec = Jvm.exec ∧ c.code = cc ∧ c.maxLocals = nL ∧ s.vm.findClass own = some m.cls ∧ (∀ w ∈ zB, w.before args s = true) ∧ va_K (dC, dI) zCl (zT k) s ∧ ∀ w ∈ zNw, va_Nw w s
def zH (dC : Nat → ClassId) (dI : Nat → Nat → Nat) (k : Nat → ClassId) (q : Nat → Nat) (X : zXS) (M : zMS) (A : Nat → Prop) (H0 H : Heap) (locs : List Loc) : Prop :=
  va_P (dC, dI) zCl (zW q k X M) H ∧ va_D A (zW q k X M) ∧ va_S A H0 H locs
/-- a contract: from the world (X, M) to the answer rv and the world (X', M') -/
def zPc (dC : Nat → ClassId) (dI : Nat → Nat → Nat) (k : Nat → ClassId) (q : Nat → Nat) (X : zXS) (M : zMS) (av : List Value) : Array Value → State → Prop := va_Pc av (fun U => va_P (dC, dI) zCl (zW q k X M) U.heap ∧ va_K (dC, dI) zCl (zT k) U ∧ va_D (zA q) (zW q k X M) ∧ ∀ w ∈ zNw, va_Nw w U)
def zQc (dC : Nat → ClassId) (dI : Nat → Nat → Nat) (k : Nat → ClassId) (q : Nat → Nat) (X : zXS) (M : zMS) (rv : Option Value) : Array Value → State → Outcome → State → Prop := fun _ st oc t => oc = .returned rv ∧ va_P (dC, dI) zCl (zW q k X M) t.heap ∧ va_F (zA q) st t
def zMet (l : Launch) (dC : Nat → ClassId) (dI : Nat → Nat → Nat) (k : Nat → ClassId) (q : Nat → Nat) (y : MethodName) (b : ByteArray) (n : Nat) (rt : Option FieldType) (fr lo : Nat) (av : List Value) (rv : Option Value) (X : zXS) (M : zMS) (X' : zXS) (M' : zMS) : Prop :=
  Met l y (.code y b n rt :: zB) { frames := fr, cells := 0, slots := 0, locals := lo } (zPc dC dI k q X M av) (zQc dC dI k q X' M' rv) 0 0 (zA q)
theorem zW_addr (q : Nat → Nat) (k : Nat → ClassId) (X : zXS) (M : zMS) : (zW q k X M).map (·.1) = (List.range 60).map q := rfl
theorem zW_at {q : Nat → Nat} {k : Nat → ClassId} {X : zXS} {M : zMS} {i : Nat} {x : Nat × va_E} (h : (zW q k X M)[i]? = some x) : i < 60 ∧ x.1 = q i := by
  have h1 : ((zW q k X M).map (·.1))[i]? = some x.1 := by rw [List.getElem?_map, h]; rfl
  rw [zW_addr, List.getElem?_map] at h1
  by_cases hi : i < 60
  · rw [List.getElem?_range hi] at h1
    exact ⟨hi, (Option.some.inj h1).symm⟩
  · rw [List.getElem?_eq_none (by rw [List.length_range]; omega)] at h1
    cases h1
theorem zW_some (q : Nat → Nat) (k : Nat → ClassId) (X : zXS) (M : zMS) {i : Nat} (hi : i < 60) : ∃ e : va_E, (zW q k X M)[i]? = some (q i, e) := by
  have hl : (zW q k X M).length = 60 := rfl
  have h := List.getElem?_eq_getElem (l := zW q k X M) (i := i) (by omega)
  have h2 := (zW_at h).2
  exact ⟨((zW q k X M)[i]'(by omega)).2, by rw [h]; congr 1; exact Prod.ext h2 rfl⟩
theorem zD_any {A : Nat → Prop} {q : Nat → Nat} {k : Nat → ClassId} {X X' : zXS} {M M' : zMS} (h : va_D A (zW q k X M)) : va_D A (zW q k X' M') := by
  refine ⟨fun i j x y hi hj hxy => ?_, fun i x hi => ?_⟩
  · obtain ⟨h1, e1⟩ := zW_at hi
    obtain ⟨h2, e2⟩ := zW_at hj
    obtain ⟨a, ha⟩ := zW_some q k X M h1
    obtain ⟨b, hb⟩ := zW_some q k X M h2
    exact h.1 i j _ _ ha hb (by rw [← e1, ← e2]; exact hxy)
  · obtain ⟨h1, e1⟩ := zW_at hi
    obtain ⟨a, ha⟩ := zW_some q k X M h1
    rw [e1]
    exact h.2 i _ ha
theorem zD_self {A : Nat → Prop} {q : Nat → Nat} {k : Nat → ClassId} {X : zXS} {M : zMS} (h : va_D A (zW q k X M)) : va_D (zA q) (zW q k X M) :=
  ⟨h.1, fun i x hi => ⟨i, (zW_at hi).1, (zW_at hi).2⟩⟩
theorem zA_le {A : Nat → Prop} {q : Nat → Nat} {k : Nat → ClassId} {X : zXS} {M : zMS} (h : va_D A (zW q k X M)) : ∀ a, zA q a → A a := by
  rintro a ⟨i, hi, rfl⟩
  obtain ⟨e, he⟩ := zW_some q k X M hi
  exact h.2 i _ he
section ZR
variable {p : Program} {l : Launch} {e : Env} {R : Room} {s : State} {m : MethodId} {args : Array Value} {below : List Frame} {meth : Method} {c : Code} {H : Heap} {locs : List Loc} {cells slots : Nat} {Q : State → Prop}
variable {cc : ByteArray} {nL pc : Nat} {ls : Array Slot} {rest : List Value} {own : String} {dC : Nat → ClassId} {dI : Nat → Nat → Nat} {k : Nat → ClassId} {q : Nat → Nat} {X X' : zXS} {M M' : zMS} {A : Nat → Prop} {H0 : Heap}
theorem z_get (C : zCx p s m args c cc nL own dC dI k) (h : zH dC dI k q X M A H0 H locs) {cls : String} {T : u_T} {N ci index a : Nat} {fs : List Value} {v : Value} (i : Nat) (hi : (zW q k X M)[i]? = some (a, .inr (ci, fs))) (hc : zCl[ci]? = some (cls, T, N)) (f : Nat) (hf : f < N) (hin : ∀ w ∈ u_ws cls T N, w ∈ zB) (hw : Cond.fieldLink own index (T f).1 (T f).2.1 (T f).2.2.1 ∈ zB) (hv : fs[f]? = some v)
    (hdg : decode cc pc = .ok (.getfield index, 3)) (kk : W p l e R s m args below meth c H locs cells slots Q (F0 m (pc + 3) ls (v :: rest))) : W p l e R s m args below meth c H locs cells slots Q (F0 m pc ls (.ref a :: rest)) := by
  obtain ⟨hx, hb, -, hown, hts, hK, -⟩ := C
  exact va_get hx hb hts hin hown hK h.1 i hi hc f hf (hts _ hw) (fun _ h9 => h9) hv hdg kk
theorem z_getN (C : zCx p s m args c cc nL own dC dI k) (h : zH dC dI k q X M A H0 H locs) {cls host : String} {T : u_T} {N ci index a : Nat} {fs : List Value} {v : Value} (i : Nat) (hi : (zW q k X M)[i]? = some (a, .inr (ci, fs))) (hc : zCl[ci]? = some (cls, T, N)) (f : Nat) (hf : f < N) (hin : ∀ w ∈ u_ws cls T N, w ∈ zB) (hw : Cond.fieldLinkNest own index (T f).1 (T f).2.1 (T f).2.2.1 host ∈ zNw) (hv : fs[f]? = some v)
    (hdg : decode cc pc = .ok (.getfield index, 3)) (kk : W p l e R s m args below meth c H locs cells slots Q (F0 m (pc + 3) ls (v :: rest))) : W p l e R s m args below meth c H locs cells slots Q (F0 m pc ls (.ref a :: rest)) := by
  obtain ⟨hx, hb, -, hown, hts, hK, hN⟩ := C
  exact va_getN hx hb hts hin hown hK h.1 i hi hc f hf (va_Nw.use rfl (hN _ hw)) (fun _ h9 => h9) hv hdg kk
theorem z_put (C : zCx p s m args c cc nL own dC dI k) (h : zH dC dI k q X M A H0 H locs) {cls : String} {T : u_T} {N ci index a : Nat} {fs : List Value} {v : Value} {ty : FieldType} (i : Nat) (hi : (zW q k X M)[i]? = some (a, .inr (ci, fs))) (hc : zCl[ci]? = some (cls, T, N)) (f : Nat) (hf : f < N) (hin : ∀ w ∈ u_ws cls T N, w ∈ zB) (ty0 : Nat → FieldType) (hty : ∀ k, k < N → parseFieldDescriptor (T k).2.2.1 = some (ty0 k)) (hnm : ∀ a, a < N → ∀ b, b < N → a ≠ b → (T a).2.1 ≠ (T b).2.1) (hw : Cond.fieldLink own index (T f).1 (T f).2.1 (T f).2.2.1 ∈ zB) (hfin : (T f).2.2.2 = false) (hd : parseFieldDescriptor (T f).2.2.1 = some ty) (hn : narrow ty v = v) (hfit : fits ty v = true) (hl : f < fs.length)
    (hs : (zW q k X M).set i (a, .inr (ci, fs.set f v)) = zW q k X' M') (hdg : decode cc pc = .ok (.putfield index, 3)) (kk : ∀ (H1 : Heap) (locs1 : List Loc), zH dC dI k q X' M' A H0 H1 locs1 → W p l e R s m args below meth c H1 locs1 cells slots Q (F0 m (pc + 3) ls rest)) : W p l e R s m args below meth c H locs cells slots Q (F0 m pc ls (v :: .ref a :: rest)) := by
  obtain ⟨hx, hb, -, hown, hts, hK, -⟩ := C
  obtain ⟨hP, hD, hS⟩ := h
  exact va_put hx hb hts hin ty0 hty hnm hown hK hP hD hS i hi hc f hf (hts _ hw) (fun _ h9 => h9) hfin hd hn hfit hl hdg (fun H1 locs1 h1 h2 h3 => kk H1 locs1 ⟨by rw [← hs]; exact h1, by rw [← hs]; exact h2, h3⟩)
theorem z_ld (C : zCx p s m args c cc nL own dC dI k) (h : zH dC dI k q X M A H0 H locs) {a n : Nat} {f : Nat → Int32} (i : Nat) (hi : (zW q k X M)[i]? = some (a, .inl (k 0, n, .inl f))) {j : Int32} (hin : vp_in j n) (hdg : decode cc pc = .ok (.iaload, 1))
    (kk : W p l e R s m args below meth c H locs cells slots Q (F0 m (pc + 1) ls (.int (f j.toNatClampNeg) :: rest))) : W p l e R s m args below meth c H locs cells slots Q (F0 m pc ls (.int j :: .ref a :: rest)) :=
  va_iald C.1 C.2.1 C.2.2.2.2.2.1 h.1 i 0 hi rfl hin hdg kk
theorem z_st (C : zCx p s m args c cc nL own dC dI k) (h : zH dC dI k q X M A H0 H locs) {a n : Nat} {f : Nat → Int32} (i : Nat) (hi : (zW q k X M)[i]? = some (a, .inl (k 0, n, .inl f))) {j x : Int32} (hin : vp_in j n) (hs : (zW q k X M).set i (a, .inl (k 0, n, .inl (upd f j.toNatClampNeg x))) = zW q k X' M') (hdg : decode cc pc = .ok (.iastore, 1))
    (kk : ∀ (H1 : Heap) (locs1 : List Loc), zH dC dI k q X' M' A H0 H1 locs1 → W p l e R s m args below meth c H1 locs1 cells slots Q (F0 m (pc + 1) ls rest)) : W p l e R s m args below meth c H locs cells slots Q (F0 m pc ls (.int x :: .int j :: .ref a :: rest)) :=
  va_iast C.1 C.2.1 C.2.2.2.2.2.1 h.1 h.2.1 h.2.2 i 0 hi rfl hin hdg (fun H1 locs1 h1 h2 h3 => kk H1 locs1 ⟨by rw [← hs]; exact h1, by rw [← hs]; exact h2, h3⟩)
theorem z_ldz (C : zCx p s m args c cc nL own dC dI k) (h : zH dC dI k q X M A H0 H locs) {a n : Nat} {f : Nat → Int32} (i : Nat) (hi : (zW q k X M)[i]? = some (a, .inl (k 1, n, .inl f))) {j : Int32} (hin : vp_in j n) (hdg : decode cc pc = .ok (.baload, 1))
    (kk : W p l e R s m args below meth c H locs cells slots Q (F0 m (pc + 1) ls (.int (f j.toNatClampNeg) :: rest))) : W p l e R s m args below meth c H locs cells slots Q (F0 m pc ls (.int j :: .ref a :: rest)) :=
  va_zald C.1 C.2.1 C.2.2.2.2.2.1 h.1 i 1 hi rfl hin hdg kk
theorem z_stz (C : zCx p s m args c cc nL own dC dI k) (h : zH dC dI k q X M A H0 H locs) {a n : Nat} {f : Nat → Int32} (i : Nat) (hi : (zW q k X M)[i]? = some (a, .inl (k 1, n, .inl f))) {j x : Int32} (hin : vp_in j n) (hs : (zW q k X M).set i (a, .inl (k 1, n, .inl (upd f j.toNatClampNeg (vp_nar .boolean x)))) = zW q k X' M') (hdg : decode cc pc = .ok (.bastore, 1))
    (kk : ∀ (H1 : Heap) (locs1 : List Loc), zH dC dI k q X' M' A H0 H1 locs1 → W p l e R s m args below meth c H1 locs1 cells slots Q (F0 m (pc + 1) ls rest)) : W p l e R s m args below meth c H locs cells slots Q (F0 m pc ls (.int x :: .int j :: .ref a :: rest)) :=
  va_zast C.1 C.2.1 C.2.2.2.2.2.1 h.1 h.2.1 h.2.2 i 1 hi rfl hin hdg (fun H1 locs1 h1 h2 h3 => kk H1 locs1 ⟨by rw [← hs]; exact h1, by rw [← hs]; exact h2, h3⟩)
/-- an element of an array of int arrays -/
theorem z_la (C : zCx p s m args c cc nL own dC dI k) (h : zH dC dI k q X M A H0 H locs) {a n b : Nat} {f : Nat → Option Nat} (i : Nat) (hi : (zW q k X M)[i]? = some (a, .inl (k 2, n, .inr (.inr (.inr (.inr f)))))) {j : Int32} (hin : vp_in j n) (hb9 : f j.toNatClampNeg = some b) (hdg : decode cc pc = .ok (.aaload, 1))
    (kk : W p l e R s m args below meth c H locs cells slots Q (F0 m (pc + 1) ls (.ref b :: rest))) : W p l e R s m args below meth c H locs cells slots Q (F0 m pc ls (.int j :: .ref a :: rest)) := by
  have hlt : j.toNatClampNeg < n := Nat.not_le.mp fun z => hin (Or.inr z)
  refine W.aald (ty := .array .int) (v := .ref b) C.1 C.2.1 (h.1 i _ hi) ((C.2.2.2.2.2.1.2 2 _ rfl).1 n (fun z => va_rf (f z))) rfl (fun z => by cases z) ?_ ?_ rfl rfl hdg kk
  · show ¬ (j < 0 ∨ (arrV _ _ _).slots.size ≤ _)
    rw [arrV_size]
    exact hin
  · show (arrV _ _ _).slots[_]? = _
    rw [arrV_read _ _ hlt, hb9]
    rfl
theorem z_lc (C : zCx p s m args c cc nL own dC dI k) (h : zH dC dI k q X M A H0 H locs) {j : Int32} (hin : vp_in j 4) (hdg : decode cc pc = .ok (.aaload, 1))
    (kk : W p l e R s m args below meth c H locs cells slots Q (F0 m (pc + 1) ls (.ref (q (16 + 4 * j.toNatClampNeg)) :: rest))) : W p l e R s m args below meth c H locs cells slots Q (F0 m pc ls (.int j :: .ref (q 15) :: rest)) :=
  va_aldq C.1 C.2.1 C.2.2.2.2.2.1 h.1 15 3 rfl rfl hin hdg kk
/-- the top of the stack by another name -/
theorem z_top {x y : Int32} (hxy : x = y) (kk : W p l e R s m args below meth c H locs cells slots Q (F0 m pc ls (.int y :: rest))) : W p l e R s m args below meth c H locs cells slots Q (F0 m pc ls (.int x :: rest)) := hxy ▸ kk
theorem z_ret {v : Int32} (C : zCx p s m args c cc nL own dC dI k) (h : zH dC dI k q X M (zA q) s.heap H locs) (hr : meth.sig.returnType = some .int) (hlocks : meth.locks = false) (hdg : decode cc pc = .ok (.ireturn, 1)) : W p l e R s m args below meth c H locs 0 0 (MQ below (zQc dC dI k q X M (some (.int v))) args s 0 0 (zA q)) (F0 m pc ls [.int v]) :=
  W.iret C.1 C.2.1 hr (fun t ht _ => ⟨rfl, by rw [ht]; exact h.1, h.2.2.F ht⟩) h.2.2.2.2 hdg hlocks
theorem z_retz {v : Int32} (C : zCx p s m args c cc nL own dC dI k) (h : zH dC dI k q X M (zA q) s.heap H locs) (hr : meth.sig.returnType = some .boolean) (hlocks : meth.locks = false) (hv : v = 0 ∨ v = 1) (hdg : decode cc pc = .ok (.ireturn, 1)) : W p l e R s m args below meth c H locs 0 0 (MQ below (zQc dC dI k q X M (some (.int v))) args s 0 0 (zA q)) (F0 m pc ls [.int v]) :=
  W.zret C.1 C.2.1 hr (by rcases hv with rfl | rfl <;> decide +kernel) (fun t ht _ => ⟨rfl, by rw [ht]; exact h.1, h.2.2.F ht⟩) h.2.2.2.2 hdg hlocks
theorem z_retv (C : zCx p s m args c cc nL own dC dI k) (h : zH dC dI k q X M (zA q) s.heap H locs) (hr : meth.sig.returnType = none) (hlocks : meth.locks = false) (hdg : decode cc pc = .ok (.return_, 1)) : W p l e R s m args below meth c H locs 0 0 (MQ below (zQc dC dI k q X M none) args s 0 0 (zA q)) (F0 m pc ls []) :=
  W.vret C.1 C.2.1 hr (fun t ht _ => ⟨rfl, by rw [ht]; exact h.1, h.2.2.F ht⟩) h.2.2.2.2 hdg hlocks
end ZR
/-- the entry of a method -/
theorem zMet.of {l : Launch} {dC : Nat → ClassId} {dI : Nat → Nat → Nat} {k : Nat → ClassId} {q : Nat → Nat} {y : MethodName} {b : ByteArray} {n : Nat} {rt : Option FieldType} {fr lo : Nat} {av : List Value} {rv : Option Value} {X : zXS} {M : zMS} {X' : zXS} {M' : zMS} (hy : plainName y.cls = true) (hn : (lg_sl av).length ≤ n)
    (body : ∀ (p : Program) (e : Env) (s : State) (m : MethodId) (args : Array Value) (below : List Frame) (meth : Method) (c : Code) (ls : Array Slot), zCx p s m args c b n y.cls dC dI k → meth.sig.returnType = rt → meth.locks = false → lv_has ls n (lv_args 0 av) → zH dC dI k q X M (zA q) s.heap s.heap [] →
      W p l e { frames := fr, cells := 0, slots := 0, locals := lo } s m args below meth c s.heap [] 0 0 (MQ below (zQc dC dI k q X' M' rv) args s 0 0 (zA q)) (F0 m 0 ls [])) : zMet l dC dI k q y b n rt fr lo av rv X M X' M' := by
  refine Met.ofW (cc := b) (maxL := n) (ret := rt) hy rfl ?_
  intro p e s m args below meth c s₁ B hml hv
  obtain ⟨rfl, hP, hK, hD, hN⟩ := hv
  have hts := atoms_spec (ws := .code y b n rt :: zB) B.pre
  have hl := lv_entry av hn
  rw [lg_entry_eq]
  exact body p e s m _ below meth c _ ⟨B.exec, B.bytes, hml, findClass_of_methodNamed B.named, fun w hw => hts w (List.mem_cons_of_mem _ hw), hK, hN⟩ B.returns B.notSynchronized hl ⟨hP, hD, va_S.rf⟩
