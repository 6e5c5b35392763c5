def zq (a h : Nat) (r : Nat → Nat) : Nat → Nat := fun i => if i = a then h else r i
theorem z_refn {D : va_G} {cl : List vw_C} {ws : va_W} {H : Heap} {A : Nat → Prop} {i a n : Nat} {cA : ClassId} {f g : Nat → Option Nat} (hP : va_P D cl ws H) (hD : va_D A ws) (he : ws[i]? = some (a, .inl (cA, n, .inr (.inr (.inr (.inr f)))))) (hfg : ∀ j, j < n → f j = g j) : va_P D cl (ws.set i (a, .inl (cA, n, .inr (.inr (.inr (.inr g)))))) H ∧ va_D A (ws.set i (a, .inl (cA, n, .inr (.inr (.inr (.inr g)))))) := by
  have h0 : H[a]? = some (vp_cell cA (n, .inr (.inr (.inr (.inr f))))) := hP i _ he
  refine ⟨va_P.set hP hD he ?_ (fun q _ => rfl), va_D.set hD he⟩
  show H[a]? = some (vp_cell cA (n, .inr (.inr (.inr (.inr g)))))
  rw [h0, vp_cell_q, vp_cell_q]
  exact congrArg some (arrV_ext fun j hj => by rw [hfg j hj])
theorem hd_C_init : y_C_init.cls ≠ "java/lang/invoke/MethodHandle" ∧ y_C_init.cls ≠ "java/lang/invoke/VarHandle" ∧ (parseMethodDescriptor y_C_init.desc).map (fun d => d.parameters.length) = some 2 := by decide +kernel
set_option maxHeartbeats 4000000 in
set_option maxRecDepth 100000 in
theorem k_C_init (l : Launch) (dC : Nat → ClassId) (dI : Nat → Nat → Nat) (k : Nat → ClassId) (h0 : Nat) (x : Int32) (qm : Nat) : zCon l dC dI k y_C_init c_C_init 3 1 12 3 12 h0 (.inr (2, [.int 0, .null, .null, .null, .null, .int 0, .int 0, .int 0, .int 0, .int 0])) [.int x, .ref qm] (fun r => [(h0, .inr (2, [.int x, .ref qm, .ref (r 0), .ref (r 1), .ref (r 2), .int 0, .int 0, .int 0, .int 0, .int 0])), (r 0, .inl (k 0, 4, .inl (fun _ => 0))), (r 1, .inl (k 0, 4, .inl (fun _ => 0))), (r 2, .inl (k 0, 4, .inl (fun _ => 0)))]) := by
  refine zCon.of (by decide) rfl (Nat.le_of_ble_eq_true rfl) ?_
  intro p e s m args below meth c ls A C hr hk hin hO hI hl hP hD hA
  have hx := C.1
  have hb := C.2.1
  have hS : va_S A s.heap s.heap [] := va_S.rf
  have hl : lv_has ls 3 [(0, .ref h0), (1, .int x), (2, .ref qm)] := hl
  refine lv_aload_n hx hb d_C_init_0 rfl (lv_at hl 0 rfl) ?_
  refine z_objI C ml_C_3 hl.1 ⟨(Nat.le_of_ble_eq_true rfl), (Nat.le_of_ble_eq_true rfl)⟩ d_C_init_1 ?_
  refine lv_aload_n hx hb d_C_init_4 rfl (lv_at hl 0 rfl) ?_
  refine lv_iconst (v := 4) hx hb d_C_init_5 (by decide) ?_
  refine z_newI C hP hD hS hA (N' := 4) (by decide) (by decide) (by decide) (Nat.le_of_ble_eq_true rfl) (Nat.le_of_ble_eq_true rfl) d_C_init_6 (fun q1 H hP hD hS => ?_)
  have hP : va_P (dC, dI) zCl [(h0, .inr (2, [.int 0, .null, .null, .null, .null, .int 0, .int 0, .int 0, .int 0, .int 0])), (q1, .inl (k 0, 4, .inl (fun _ => 0)))] H := hP
  have hD : va_D A [(h0, .inr (2, [.int 0, .null, .null, .null, .null, .int 0, .int 0, .int 0, .int 0, .int 0])), (q1, .inl (k 0, 4, .inl (fun _ => 0)))] := hD
  refine va_putF (D := (dC, dI)) (ci := 2) (v := .ref q1) (ty := .array .int) (C := R_C) (T := F_C) (N := 10) hx hb C.2.2.2.2.1 u_C t_C to_C n_C C.2.2.2.1 C.2.2.2.2.2.1 hP hD hS 0 rfl rfl 2 (by decide) (C.2.2.2.2.1 _ fl_C_9) (fun _ h9 => h9) rfl hin rfl (by decide +kernel) rfl rfl (Nat.le_of_ble_eq_true rfl) d_C_init_8 (fun H locs hP hD hS => ?_)
  have hP : va_P (dC, dI) zCl [(h0, .inr (2, [.int 0, .null, .ref q1, .null, .null, .int 0, .int 0, .int 0, .int 0, .int 0])), (q1, .inl (k 0, 4, .inl (fun _ => 0)))] H := hP
  have hD : va_D A [(h0, .inr (2, [.int 0, .null, .ref q1, .null, .null, .int 0, .int 0, .int 0, .int 0, .int 0])), (q1, .inl (k 0, 4, .inl (fun _ => 0)))] := hD
  refine lv_aload_n hx hb d_C_init_11 rfl (lv_at hl 0 rfl) ?_
  refine lv_iconst (v := 4) hx hb d_C_init_12 (by decide) ?_
  refine z_newI C hP hD hS hA (N' := 4) (by decide) (by decide) (by decide) (Nat.le_of_ble_eq_true rfl) (Nat.le_of_ble_eq_true rfl) d_C_init_13 (fun q2 H hP hD hS => ?_)
  have hP : va_P (dC, dI) zCl [(h0, .inr (2, [.int 0, .null, .ref q1, .null, .null, .int 0, .int 0, .int 0, .int 0, .int 0])), (q1, .inl (k 0, 4, .inl (fun _ => 0))), (q2, .inl (k 0, 4, .inl (fun _ => 0)))] H := hP
  have hD : va_D A [(h0, .inr (2, [.int 0, .null, .ref q1, .null, .null, .int 0, .int 0, .int 0, .int 0, .int 0])), (q1, .inl (k 0, 4, .inl (fun _ => 0))), (q2, .inl (k 0, 4, .inl (fun _ => 0)))] := hD
  refine va_putF (D := (dC, dI)) (ci := 2) (v := .ref q2) (ty := .array .int) (C := R_C) (T := F_C) (N := 10) hx hb C.2.2.2.2.1 u_C t_C to_C n_C C.2.2.2.1 C.2.2.2.2.2.1 hP hD hS 0 rfl rfl 3 (by decide) (C.2.2.2.2.1 _ fl_C_15) (fun _ h9 => h9) rfl hin rfl (by decide +kernel) rfl rfl (Nat.le_of_ble_eq_true rfl) d_C_init_15 (fun H locs hP hD hS => ?_)
  have hP : va_P (dC, dI) zCl [(h0, .inr (2, [.int 0, .null, .ref q1, .ref q2, .null, .int 0, .int 0, .int 0, .int 0, .int 0])), (q1, .inl (k 0, 4, .inl (fun _ => 0))), (q2, .inl (k 0, 4, .inl (fun _ => 0)))] H := hP
  have hD : va_D A [(h0, .inr (2, [.int 0, .null, .ref q1, .ref q2, .null, .int 0, .int 0, .int 0, .int 0, .int 0])), (q1, .inl (k 0, 4, .inl (fun _ => 0))), (q2, .inl (k 0, 4, .inl (fun _ => 0)))] := hD
  refine lv_aload_n hx hb d_C_init_18 rfl (lv_at hl 0 rfl) ?_
  refine lv_iconst (v := 4) hx hb d_C_init_19 (by decide) ?_
  refine z_newI C hP hD hS hA (N' := 4) (by decide) (by decide) (by decide) (Nat.le_of_ble_eq_true rfl) (Nat.le_of_ble_eq_true rfl) d_C_init_20 (fun q3 H hP hD hS => ?_)
  have hP : va_P (dC, dI) zCl [(h0, .inr (2, [.int 0, .null, .ref q1, .ref q2, .null, .int 0, .int 0, .int 0, .int 0, .int 0])), (q1, .inl (k 0, 4, .inl (fun _ => 0))), (q2, .inl (k 0, 4, .inl (fun _ => 0))), (q3, .inl (k 0, 4, .inl (fun _ => 0)))] H := hP
  have hD : va_D A [(h0, .inr (2, [.int 0, .null, .ref q1, .ref q2, .null, .int 0, .int 0, .int 0, .int 0, .int 0])), (q1, .inl (k 0, 4, .inl (fun _ => 0))), (q2, .inl (k 0, 4, .inl (fun _ => 0))), (q3, .inl (k 0, 4, .inl (fun _ => 0)))] := hD
  refine va_putF (D := (dC, dI)) (ci := 2) (v := .ref q3) (ty := .array .int) (C := R_C) (T := F_C) (N := 10) hx hb C.2.2.2.2.1 u_C t_C to_C n_C C.2.2.2.1 C.2.2.2.2.2.1 hP hD hS 0 rfl rfl 4 (by decide) (C.2.2.2.2.1 _ fl_C_18) (fun _ h9 => h9) rfl hin rfl (by decide +kernel) rfl rfl (Nat.le_of_ble_eq_true rfl) d_C_init_22 (fun H locs hP hD hS => ?_)
  have hP : va_P (dC, dI) zCl [(h0, .inr (2, [.int 0, .null, .ref q1, .ref q2, .ref q3, .int 0, .int 0, .int 0, .int 0, .int 0])), (q1, .inl (k 0, 4, .inl (fun _ => 0))), (q2, .inl (k 0, 4, .inl (fun _ => 0))), (q3, .inl (k 0, 4, .inl (fun _ => 0)))] H := hP
  have hD : va_D A [(h0, .inr (2, [.int 0, .null, .ref q1, .ref q2, .ref q3, .int 0, .int 0, .int 0, .int 0, .int 0])), (q1, .inl (k 0, 4, .inl (fun _ => 0))), (q2, .inl (k 0, 4, .inl (fun _ => 0))), (q3, .inl (k 0, 4, .inl (fun _ => 0)))] := hD
  refine lv_aload_n hx hb d_C_init_25 rfl (lv_at hl 0 rfl) ?_
  refine lv_iconst (v := 0) hx hb d_C_init_26 (by decide) ?_
  refine va_put (D := (dC, dI)) (ci := 2) (v := .int 0) (ty := .boolean) (C := R_C) (T := F_C) (N := 10) hx hb C.2.2.2.2.1 u_C t_C to_C n_C C.2.2.2.1 C.2.2.2.2.2.1 hP hD hS 0 rfl rfl 5 (by decide) (C.2.2.2.2.1 _ fl_C_21) (fun _ h9 => h9) rfl (by decide +kernel) rfl rfl (Nat.le_of_ble_eq_true rfl) d_C_init_27 (fun H locs hP hD hS => ?_)
  have hP : va_P (dC, dI) zCl [(h0, .inr (2, [.int 0, .null, .ref q1, .ref q2, .ref q3, .int 0, .int 0, .int 0, .int 0, .int 0])), (q1, .inl (k 0, 4, .inl (fun _ => 0))), (q2, .inl (k 0, 4, .inl (fun _ => 0))), (q3, .inl (k 0, 4, .inl (fun _ => 0)))] H := hP
  have hD : va_D A [(h0, .inr (2, [.int 0, .null, .ref q1, .ref q2, .ref q3, .int 0, .int 0, .int 0, .int 0, .int 0])), (q1, .inl (k 0, 4, .inl (fun _ => 0))), (q2, .inl (k 0, 4, .inl (fun _ => 0))), (q3, .inl (k 0, 4, .inl (fun _ => 0)))] := hD
  refine lv_aload_n hx hb d_C_init_30 rfl (lv_at hl 0 rfl) ?_
  refine lv_iconst (v := 0) hx hb d_C_init_31 (by decide) ?_
  refine va_put (D := (dC, dI)) (ci := 2) (v := .int 0) (ty := .int) (C := R_C) (T := F_C) (N := 10) hx hb C.2.2.2.2.1 u_C t_C to_C n_C C.2.2.2.1 C.2.2.2.2.2.1 hP hD hS 0 rfl rfl 6 (by decide) (C.2.2.2.2.1 _ fl_C_25) (fun _ h9 => h9) rfl (by decide +kernel) rfl rfl (Nat.le_of_ble_eq_true rfl) d_C_init_32 (fun H locs hP hD hS => ?_)
  have hP : va_P (dC, dI) zCl [(h0, .inr (2, [.int 0, .null, .ref q1, .ref q2, .ref q3, .int 0, .int 0, .int 0, .int 0, .int 0])), (q1, .inl (k 0, 4, .inl (fun _ => 0))), (q2, .inl (k 0, 4, .inl (fun _ => 0))), (q3, .inl (k 0, 4, .inl (fun _ => 0)))] H := hP
  have hD : va_D A [(h0, .inr (2, [.int 0, .null, .ref q1, .ref q2, .ref q3, .int 0, .int 0, .int 0, .int 0, .int 0])), (q1, .inl (k 0, 4, .inl (fun _ => 0))), (q2, .inl (k 0, 4, .inl (fun _ => 0))), (q3, .inl (k 0, 4, .inl (fun _ => 0)))] := hD
  refine lv_aload_n hx hb d_C_init_35 rfl (lv_at hl 0 rfl) ?_
  refine lv_iconst (v := 0) hx hb d_C_init_36 (by decide) ?_
  refine va_put (D := (dC, dI)) (ci := 2) (v := .int 0) (ty := .int) (C := R_C) (T := F_C) (N := 10) hx hb C.2.2.2.2.1 u_C t_C to_C n_C C.2.2.2.1 C.2.2.2.2.2.1 hP hD hS 0 rfl rfl 7 (by decide) (C.2.2.2.2.1 _ fl_C_29) (fun _ h9 => h9) rfl (by decide +kernel) rfl rfl (Nat.le_of_ble_eq_true rfl) d_C_init_37 (fun H locs hP hD hS => ?_)
  have hP : va_P (dC, dI) zCl [(h0, .inr (2, [.int 0, .null, .ref q1, .ref q2, .ref q3, .int 0, .int 0, .int 0, .int 0, .int 0])), (q1, .inl (k 0, 4, .inl (fun _ => 0))), (q2, .inl (k 0, 4, .inl (fun _ => 0))), (q3, .inl (k 0, 4, .inl (fun _ => 0)))] H := hP
  have hD : va_D A [(h0, .inr (2, [.int 0, .null, .ref q1, .ref q2, .ref q3, .int 0, .int 0, .int 0, .int 0, .int 0])), (q1, .inl (k 0, 4, .inl (fun _ => 0))), (q2, .inl (k 0, 4, .inl (fun _ => 0))), (q3, .inl (k 0, 4, .inl (fun _ => 0)))] := hD
  refine lv_aload_n hx hb d_C_init_40 rfl (lv_at hl 0 rfl) ?_
  refine lv_iconst (v := 0) hx hb d_C_init_41 (by decide) ?_
  refine va_put (D := (dC, dI)) (ci := 2) (v := .int 0) (ty := .int) (C := R_C) (T := F_C) (N := 10) hx hb C.2.2.2.2.1 u_C t_C to_C n_C C.2.2.2.1 C.2.2.2.2.2.1 hP hD hS 0 rfl rfl 8 (by decide) (C.2.2.2.2.1 _ fl_C_32) (fun _ h9 => h9) rfl (by decide +kernel) rfl rfl (Nat.le_of_ble_eq_true rfl) d_C_init_42 (fun H locs hP hD hS => ?_)
  have hP : va_P (dC, dI) zCl [(h0, .inr (2, [.int 0, .null, .ref q1, .ref q2, .ref q3, .int 0, .int 0, .int 0, .int 0, .int 0])), (q1, .inl (k 0, 4, .inl (fun _ => 0))), (q2, .inl (k 0, 4, .inl (fun _ => 0))), (q3, .inl (k 0, 4, .inl (fun _ => 0)))] H := hP
  have hD : va_D A [(h0, .inr (2, [.int 0, .null, .ref q1, .ref q2, .ref q3, .int 0, .int 0, .int 0, .int 0, .int 0])), (q1, .inl (k 0, 4, .inl (fun _ => 0))), (q2, .inl (k 0, 4, .inl (fun _ => 0))), (q3, .inl (k 0, 4, .inl (fun _ => 0)))] := hD
  refine lv_aload_n hx hb d_C_init_45 rfl (lv_at hl 0 rfl) ?_
  refine lv_iconst (v := 0) hx hb d_C_init_46 (by decide) ?_
  refine va_put (D := (dC, dI)) (ci := 2) (v := .int 0) (ty := .int) (C := R_C) (T := F_C) (N := 10) hx hb C.2.2.2.2.1 u_C t_C to_C n_C C.2.2.2.1 C.2.2.2.2.2.1 hP hD hS 0 rfl rfl 9 (by decide) (C.2.2.2.2.1 _ fl_C_35) (fun _ h9 => h9) rfl (by decide +kernel) rfl rfl (Nat.le_of_ble_eq_true rfl) d_C_init_47 (fun H locs hP hD hS => ?_)
  have hP : va_P (dC, dI) zCl [(h0, .inr (2, [.int 0, .null, .ref q1, .ref q2, .ref q3, .int 0, .int 0, .int 0, .int 0, .int 0])), (q1, .inl (k 0, 4, .inl (fun _ => 0))), (q2, .inl (k 0, 4, .inl (fun _ => 0))), (q3, .inl (k 0, 4, .inl (fun _ => 0)))] H := hP
  have hD : va_D A [(h0, .inr (2, [.int 0, .null, .ref q1, .ref q2, .ref q3, .int 0, .int 0, .int 0, .int 0, .int 0])), (q1, .inl (k 0, 4, .inl (fun _ => 0))), (q2, .inl (k 0, 4, .inl (fun _ => 0))), (q3, .inl (k 0, 4, .inl (fun _ => 0)))] := hD
  refine lv_aload_n hx hb d_C_init_50 rfl (lv_at hl 0 rfl) ?_
  refine lv_iload_n hx hb d_C_init_51 rfl (lv_at hl 1 rfl) ?_
  refine va_putF (D := (dC, dI)) (ci := 2) (v := .int x) (ty := .int) (C := R_C) (T := F_C) (N := 10) hx hb C.2.2.2.2.1 u_C t_C to_C n_C C.2.2.2.1 C.2.2.2.2.2.1 hP hD hS 0 rfl rfl 0 (by decide) (C.2.2.2.2.1 _ fl_C_38) (fun _ h9 => h9) rfl hin rfl (by decide +kernel) rfl rfl (Nat.le_of_ble_eq_true rfl) d_C_init_52 (fun H locs hP hD hS => ?_)
  have hP : va_P (dC, dI) zCl [(h0, .inr (2, [.int x, .null, .ref q1, .ref q2, .ref q3, .int 0, .int 0, .int 0, .int 0, .int 0])), (q1, .inl (k 0, 4, .inl (fun _ => 0))), (q2, .inl (k 0, 4, .inl (fun _ => 0))), (q3, .inl (k 0, 4, .inl (fun _ => 0)))] H := hP
  have hD : va_D A [(h0, .inr (2, [.int x, .null, .ref q1, .ref q2, .ref q3, .int 0, .int 0, .int 0, .int 0, .int 0])), (q1, .inl (k 0, 4, .inl (fun _ => 0))), (q2, .inl (k 0, 4, .inl (fun _ => 0))), (q3, .inl (k 0, 4, .inl (fun _ => 0)))] := hD
  refine lv_aload_n hx hb d_C_init_55 rfl (lv_at hl 0 rfl) ?_
  refine lv_aload_n hx hb d_C_init_56 rfl (lv_at hl 2 rfl) ?_
  refine va_putF (D := (dC, dI)) (ci := 2) (v := .ref qm) (ty := .object "SharerHome$Mail") (C := R_C) (T := F_C) (N := 10) hx hb C.2.2.2.2.1 u_C t_C to_C n_C C.2.2.2.1 C.2.2.2.2.2.1 hP hD hS 0 rfl rfl 1 (by decide) (C.2.2.2.2.1 _ fl_C_41) (fun _ h9 => h9) rfl hin rfl (by decide +kernel) rfl rfl (Nat.le_of_ble_eq_true rfl) d_C_init_57 (fun H locs hP hD hS => ?_)
  have hP : va_P (dC, dI) zCl [(h0, .inr (2, [.int x, .ref qm, .ref q1, .ref q2, .ref q3, .int 0, .int 0, .int 0, .int 0, .int 0])), (q1, .inl (k 0, 4, .inl (fun _ => 0))), (q2, .inl (k 0, 4, .inl (fun _ => 0))), (q3, .inl (k 0, 4, .inl (fun _ => 0)))] H := hP
  have hD : va_D A [(h0, .inr (2, [.int x, .ref qm, .ref q1, .ref q2, .ref q3, .int 0, .int 0, .int 0, .int 0, .int 0])), (q1, .inl (k 0, 4, .inl (fun _ => 0))), (q2, .inl (k 0, 4, .inl (fun _ => 0))), (q3, .inl (k 0, 4, .inl (fun _ => 0)))] := hD
  exact z_conret C (fun i => [q1, q2, q3].getD i 0) hP hD hS hr hk d_C_init_60
theorem hd_H_init : y_H_init.cls ≠ "java/lang/invoke/MethodHandle" ∧ y_H_init.cls ≠ "java/lang/invoke/VarHandle" ∧ (parseMethodDescriptor y_H_init.desc).map (fun d => d.parameters.length) = some 1 := by decide +kernel
set_option maxHeartbeats 4000000 in
set_option maxRecDepth 100000 in
theorem k_H_init (l : Launch) (dC : Nat → ClassId) (dI : Nat → Nat → Nat) (k : Nat → ClassId) (h0 : Nat) (qm : Nat) : zCon l dC dI k y_H_init c_H_init 2 1 12 4 16 h0 (.inr (3, [.null, .null, .null, .null, .null])) [.ref qm] (fun r => [(h0, .inr (3, [.ref qm, .ref (r 0), .ref (r 1), .ref (r 2), .ref (r 3)])), (r 0, .inl (k 0, 4, .inl (fun _ => 0))), (r 1, .inl (k 0, 4, .inl (fun _ => 0))), (r 2, .inl (k 0, 4, .inl (fun _ => 0))), (r 3, .inl (k 0, 4, .inl (fun _ => 0)))]) := by
  refine zCon.of (by decide) rfl (Nat.le_of_ble_eq_true rfl) ?_
  intro p e s m args below meth c ls A C hr hk hin hO hI hl hP hD hA
  have hx := C.1
  have hb := C.2.1
  have hS : va_S A s.heap s.heap [] := va_S.rf
  have hl : lv_has ls 2 [(0, .ref h0), (1, .ref qm)] := hl
  refine lv_aload_n hx hb d_H_init_0 rfl (lv_at hl 0 rfl) ?_
  refine z_objI C ml_H_3 hl.1 ⟨(Nat.le_of_ble_eq_true rfl), (Nat.le_of_ble_eq_true rfl)⟩ d_H_init_1 ?_
  refine lv_aload_n hx hb d_H_init_4 rfl (lv_at hl 0 rfl) ?_
  refine lv_iconst (v := 4) hx hb d_H_init_5 (by decide) ?_
  refine z_newI C hP hD hS hA (N' := 4) (by decide) (by decide) (by decide) (Nat.le_of_ble_eq_true rfl) (Nat.le_of_ble_eq_true rfl) d_H_init_6 (fun q1 H hP hD hS => ?_)
  have hP : va_P (dC, dI) zCl [(h0, .inr (3, [.null, .null, .null, .null, .null])), (q1, .inl (k 0, 4, .inl (fun _ => 0)))] H := hP
  have hD : va_D A [(h0, .inr (3, [.null, .null, .null, .null, .null])), (q1, .inl (k 0, 4, .inl (fun _ => 0)))] := hD
  refine va_putF (D := (dC, dI)) (ci := 3) (v := .ref q1) (ty := .array .int) (C := R_H) (T := F_H) (N := 5) hx hb C.2.2.2.2.1 u_H t_H to_H n_H C.2.2.2.1 C.2.2.2.2.2.1 hP hD hS 0 rfl rfl 1 (by decide) (C.2.2.2.2.1 _ fl_H_9) (fun _ h9 => h9) rfl hin rfl (by decide +kernel) rfl rfl (Nat.le_of_ble_eq_true rfl) d_H_init_8 (fun H locs hP hD hS => ?_)
  have hP : va_P (dC, dI) zCl [(h0, .inr (3, [.null, .ref q1, .null, .null, .null])), (q1, .inl (k 0, 4, .inl (fun _ => 0)))] H := hP
  have hD : va_D A [(h0, .inr (3, [.null, .ref q1, .null, .null, .null])), (q1, .inl (k 0, 4, .inl (fun _ => 0)))] := hD
  refine lv_aload_n hx hb d_H_init_11 rfl (lv_at hl 0 rfl) ?_
  refine lv_iconst (v := 4) hx hb d_H_init_12 (by decide) ?_
  refine z_newI C hP hD hS hA (N' := 4) (by decide) (by decide) (by decide) (Nat.le_of_ble_eq_true rfl) (Nat.le_of_ble_eq_true rfl) d_H_init_13 (fun q2 H hP hD hS => ?_)
  have hP : va_P (dC, dI) zCl [(h0, .inr (3, [.null, .ref q1, .null, .null, .null])), (q1, .inl (k 0, 4, .inl (fun _ => 0))), (q2, .inl (k 0, 4, .inl (fun _ => 0)))] H := hP
  have hD : va_D A [(h0, .inr (3, [.null, .ref q1, .null, .null, .null])), (q1, .inl (k 0, 4, .inl (fun _ => 0))), (q2, .inl (k 0, 4, .inl (fun _ => 0)))] := hD
  refine va_putF (D := (dC, dI)) (ci := 3) (v := .ref q2) (ty := .array .int) (C := R_H) (T := F_H) (N := 5) hx hb C.2.2.2.2.1 u_H t_H to_H n_H C.2.2.2.1 C.2.2.2.2.2.1 hP hD hS 0 rfl rfl 2 (by decide) (C.2.2.2.2.1 _ fl_H_15) (fun _ h9 => h9) rfl hin rfl (by decide +kernel) rfl rfl (Nat.le_of_ble_eq_true rfl) d_H_init_15 (fun H locs hP hD hS => ?_)
  have hP : va_P (dC, dI) zCl [(h0, .inr (3, [.null, .ref q1, .ref q2, .null, .null])), (q1, .inl (k 0, 4, .inl (fun _ => 0))), (q2, .inl (k 0, 4, .inl (fun _ => 0)))] H := hP
  have hD : va_D A [(h0, .inr (3, [.null, .ref q1, .ref q2, .null, .null])), (q1, .inl (k 0, 4, .inl (fun _ => 0))), (q2, .inl (k 0, 4, .inl (fun _ => 0)))] := hD
  refine lv_aload_n hx hb d_H_init_18 rfl (lv_at hl 0 rfl) ?_
  refine lv_iconst (v := 4) hx hb d_H_init_19 (by decide) ?_
  refine z_newI C hP hD hS hA (N' := 4) (by decide) (by decide) (by decide) (Nat.le_of_ble_eq_true rfl) (Nat.le_of_ble_eq_true rfl) d_H_init_20 (fun q3 H hP hD hS => ?_)
  have hP : va_P (dC, dI) zCl [(h0, .inr (3, [.null, .ref q1, .ref q2, .null, .null])), (q1, .inl (k 0, 4, .inl (fun _ => 0))), (q2, .inl (k 0, 4, .inl (fun _ => 0))), (q3, .inl (k 0, 4, .inl (fun _ => 0)))] H := hP
  have hD : va_D A [(h0, .inr (3, [.null, .ref q1, .ref q2, .null, .null])), (q1, .inl (k 0, 4, .inl (fun _ => 0))), (q2, .inl (k 0, 4, .inl (fun _ => 0))), (q3, .inl (k 0, 4, .inl (fun _ => 0)))] := hD
  refine va_putF (D := (dC, dI)) (ci := 3) (v := .ref q3) (ty := .array .int) (C := R_H) (T := F_H) (N := 5) hx hb C.2.2.2.2.1 u_H t_H to_H n_H C.2.2.2.1 C.2.2.2.2.2.1 hP hD hS 0 rfl rfl 3 (by decide) (C.2.2.2.2.1 _ fl_H_18) (fun _ h9 => h9) rfl hin rfl (by decide +kernel) rfl rfl (Nat.le_of_ble_eq_true rfl) d_H_init_22 (fun H locs hP hD hS => ?_)
  have hP : va_P (dC, dI) zCl [(h0, .inr (3, [.null, .ref q1, .ref q2, .ref q3, .null])), (q1, .inl (k 0, 4, .inl (fun _ => 0))), (q2, .inl (k 0, 4, .inl (fun _ => 0))), (q3, .inl (k 0, 4, .inl (fun _ => 0)))] H := hP
  have hD : va_D A [(h0, .inr (3, [.null, .ref q1, .ref q2, .ref q3, .null])), (q1, .inl (k 0, 4, .inl (fun _ => 0))), (q2, .inl (k 0, 4, .inl (fun _ => 0))), (q3, .inl (k 0, 4, .inl (fun _ => 0)))] := hD
  refine lv_aload_n hx hb d_H_init_25 rfl (lv_at hl 0 rfl) ?_
  refine lv_iconst (v := 4) hx hb d_H_init_26 (by decide) ?_
  refine z_newI C hP hD hS hA (N' := 4) (by decide) (by decide) (by decide) (Nat.le_of_ble_eq_true rfl) (Nat.le_of_ble_eq_true rfl) d_H_init_27 (fun q4 H hP hD hS => ?_)
  have hP : va_P (dC, dI) zCl [(h0, .inr (3, [.null, .ref q1, .ref q2, .ref q3, .null])), (q1, .inl (k 0, 4, .inl (fun _ => 0))), (q2, .inl (k 0, 4, .inl (fun _ => 0))), (q3, .inl (k 0, 4, .inl (fun _ => 0))), (q4, .inl (k 0, 4, .inl (fun _ => 0)))] H := hP
  have hD : va_D A [(h0, .inr (3, [.null, .ref q1, .ref q2, .ref q3, .null])), (q1, .inl (k 0, 4, .inl (fun _ => 0))), (q2, .inl (k 0, 4, .inl (fun _ => 0))), (q3, .inl (k 0, 4, .inl (fun _ => 0))), (q4, .inl (k 0, 4, .inl (fun _ => 0)))] := hD
  refine va_putF (D := (dC, dI)) (ci := 3) (v := .ref q4) (ty := .array .int) (C := R_H) (T := F_H) (N := 5) hx hb C.2.2.2.2.1 u_H t_H to_H n_H C.2.2.2.1 C.2.2.2.2.2.1 hP hD hS 0 rfl rfl 4 (by decide) (C.2.2.2.2.1 _ fl_H_21) (fun _ h9 => h9) rfl hin rfl (by decide +kernel) rfl rfl (Nat.le_of_ble_eq_true rfl) d_H_init_29 (fun H locs hP hD hS => ?_)
  have hP : va_P (dC, dI) zCl [(h0, .inr (3, [.null, .ref q1, .ref q2, .ref q3, .ref q4])), (q1, .inl (k 0, 4, .inl (fun _ => 0))), (q2, .inl (k 0, 4, .inl (fun _ => 0))), (q3, .inl (k 0, 4, .inl (fun _ => 0))), (q4, .inl (k 0, 4, .inl (fun _ => 0)))] H := hP
  have hD : va_D A [(h0, .inr (3, [.null, .ref q1, .ref q2, .ref q3, .ref q4])), (q1, .inl (k 0, 4, .inl (fun _ => 0))), (q2, .inl (k 0, 4, .inl (fun _ => 0))), (q3, .inl (k 0, 4, .inl (fun _ => 0))), (q4, .inl (k 0, 4, .inl (fun _ => 0)))] := hD
  refine lv_aload_n hx hb d_H_init_32 rfl (lv_at hl 0 rfl) ?_
  refine lv_aload_n hx hb d_H_init_33 rfl (lv_at hl 1 rfl) ?_
  refine va_putF (D := (dC, dI)) (ci := 3) (v := .ref qm) (ty := .object "SharerHome$Mail") (C := R_H) (T := F_H) (N := 5) hx hb C.2.2.2.2.1 u_H t_H to_H n_H C.2.2.2.1 C.2.2.2.2.2.1 hP hD hS 0 rfl rfl 0 (by decide) (C.2.2.2.2.1 _ fl_H_24) (fun _ h9 => h9) rfl hin rfl (by decide +kernel) rfl rfl (Nat.le_of_ble_eq_true rfl) d_H_init_34 (fun H locs hP hD hS => ?_)
  have hP : va_P (dC, dI) zCl [(h0, .inr (3, [.ref qm, .ref q1, .ref q2, .ref q3, .ref q4])), (q1, .inl (k 0, 4, .inl (fun _ => 0))), (q2, .inl (k 0, 4, .inl (fun _ => 0))), (q3, .inl (k 0, 4, .inl (fun _ => 0))), (q4, .inl (k 0, 4, .inl (fun _ => 0)))] H := hP
  have hD : va_D A [(h0, .inr (3, [.ref qm, .ref q1, .ref q2, .ref q3, .ref q4])), (q1, .inl (k 0, 4, .inl (fun _ => 0))), (q2, .inl (k 0, 4, .inl (fun _ => 0))), (q3, .inl (k 0, 4, .inl (fun _ => 0))), (q4, .inl (k 0, 4, .inl (fun _ => 0)))] := hD
  exact z_conret C (fun i => [q1, q2, q3, q4].getD i 0) hP hD hS hr hk d_H_init_37
theorem hd_A_init : y_A_init.cls ≠ "java/lang/invoke/MethodHandle" ∧ y_A_init.cls ≠ "java/lang/invoke/VarHandle" ∧ (parseMethodDescriptor y_A_init.desc).map (fun d => d.parameters.length) = some 0 := by decide +kernel
set_option maxHeartbeats 4000000 in
set_option maxRecDepth 100000 in
theorem k_A_init (l : Launch) (dC : Nat → ClassId) (dI : Nat → Nat → Nat) (k : Nat → ClassId) (h0 : Nat) : zCon l dC dI k y_A_init c_A_init 1 1 12 13 475 h0 (.inr (1, [.null, .null, .int 0])) [] (fun r => [(h0, .inr (1, [.ref (r 0), .ref (r 1), .int 0])), (r 0, .inl (k 2, 7, .inr (.inr (.inr (.inr (fun i => some (r 0 + 1 + i))))))), (r 0 + 1 + 0, .inl (k 0, 64, .inl (fun _ => 0))), (r 0 + 1 + 1, .inl (k 0, 64, .inl (fun _ => 0))), (r 0 + 1 + 2, .inl (k 0, 64, .inl (fun _ => 0))), (r 0 + 1 + 3, .inl (k 0, 64, .inl (fun _ => 0))), (r 0 + 1 + 4, .inl (k 0, 64, .inl (fun _ => 0))), (r 0 + 1 + 5, .inl (k 0, 64, .inl (fun _ => 0))), (r 0 + 1 + 6, .inl (k 0, 64, .inl (fun _ => 0))), (r 1, .inl (k 2, 4, .inr (.inr (.inr (.inr (fun i => some (r 1 + 1 + i))))))), (r 1 + 1 + 0, .inl (k 0, 4, .inl (fun _ => 0))), (r 1 + 1 + 1, .inl (k 0, 4, .inl (fun _ => 0))), (r 1 + 1 + 2, .inl (k 0, 4, .inl (fun _ => 0))), (r 1 + 1 + 3, .inl (k 0, 4, .inl (fun _ => 0)))]) := by
  refine zCon.of (by decide) rfl (Nat.le_of_ble_eq_true rfl) ?_
  intro p e s m args below meth c ls A C hr hk hin hO hI hl hP hD hA
  have hx := C.1
  have hb := C.2.1
  have hS : va_S A s.heap s.heap [] := va_S.rf
  have hl : lv_has ls 1 [(0, .ref h0)] := hl
  refine lv_aload_n hx hb d_A_init_0 rfl (lv_at hl 0 rfl) ?_
  refine z_objI C ml_A_3 hl.1 ⟨(Nat.le_of_ble_eq_true rfl), (Nat.le_of_ble_eq_true rfl)⟩ d_A_init_1 ?_
  refine lv_aload_n hx hb d_A_init_4 rfl (lv_at hl 0 rfl) ?_
  refine lv_bipush (v := 7) hx hb d_A_init_5 (by decide) ?_
  refine lv_bipush (v := 64) hx hb d_A_init_7 (by decide) ?_
  refine z_mna C hI hP hD hS hA cl_A_11 (N' := 7) (K' := 64) (by decide) (by decide) (by decide) (by decide) (by decide) (by decide) (Nat.le_of_ble_eq_true rfl) (Nat.le_of_ble_eq_true rfl) d_A_init_9 (fun q1 H hP hD hS => ?_)
  have hP : va_P (dC, dI) zCl [(h0, .inr (1, [.null, .null, .int 0])), (q1, .inl (k 2, 7, .inr (.inr (.inr (.inr (fun i => some (q1 + 1 + i))))))), (q1 + 1 + 0, .inl (k 0, 64, .inl (fun _ => 0))), (q1 + 1 + 1, .inl (k 0, 64, .inl (fun _ => 0))), (q1 + 1 + 2, .inl (k 0, 64, .inl (fun _ => 0))), (q1 + 1 + 3, .inl (k 0, 64, .inl (fun _ => 0))), (q1 + 1 + 4, .inl (k 0, 64, .inl (fun _ => 0))), (q1 + 1 + 5, .inl (k 0, 64, .inl (fun _ => 0))), (q1 + 1 + 6, .inl (k 0, 64, .inl (fun _ => 0)))] H := hP
  have hD : va_D A [(h0, .inr (1, [.null, .null, .int 0])), (q1, .inl (k 2, 7, .inr (.inr (.inr (.inr (fun i => some (q1 + 1 + i))))))), (q1 + 1 + 0, .inl (k 0, 64, .inl (fun _ => 0))), (q1 + 1 + 1, .inl (k 0, 64, .inl (fun _ => 0))), (q1 + 1 + 2, .inl (k 0, 64, .inl (fun _ => 0))), (q1 + 1 + 3, .inl (k 0, 64, .inl (fun _ => 0))), (q1 + 1 + 4, .inl (k 0, 64, .inl (fun _ => 0))), (q1 + 1 + 5, .inl (k 0, 64, .inl (fun _ => 0))), (q1 + 1 + 6, .inl (k 0, 64, .inl (fun _ => 0)))] := hD
  refine va_putF (D := (dC, dI)) (ci := 1) (v := .ref q1) (ty := .array (.array .int)) (C := R_A) (T := F_A) (N := 3) hx hb C.2.2.2.2.1 u_A t_A to_A n_A C.2.2.2.1 C.2.2.2.2.2.1 hP hD hS 0 rfl rfl 0 (by decide) (C.2.2.2.2.1 _ fl_A_13) (fun _ h9 => h9) rfl hin rfl (by decide +kernel) rfl rfl (Nat.le_of_ble_eq_true rfl) d_A_init_13 (fun H locs hP hD hS => ?_)
  have hP : va_P (dC, dI) zCl [(h0, .inr (1, [.ref q1, .null, .int 0])), (q1, .inl (k 2, 7, .inr (.inr (.inr (.inr (fun i => some (q1 + 1 + i))))))), (q1 + 1 + 0, .inl (k 0, 64, .inl (fun _ => 0))), (q1 + 1 + 1, .inl (k 0, 64, .inl (fun _ => 0))), (q1 + 1 + 2, .inl (k 0, 64, .inl (fun _ => 0))), (q1 + 1 + 3, .inl (k 0, 64, .inl (fun _ => 0))), (q1 + 1 + 4, .inl (k 0, 64, .inl (fun _ => 0))), (q1 + 1 + 5, .inl (k 0, 64, .inl (fun _ => 0))), (q1 + 1 + 6, .inl (k 0, 64, .inl (fun _ => 0)))] H := hP
  have hD : va_D A [(h0, .inr (1, [.ref q1, .null, .int 0])), (q1, .inl (k 2, 7, .inr (.inr (.inr (.inr (fun i => some (q1 + 1 + i))))))), (q1 + 1 + 0, .inl (k 0, 64, .inl (fun _ => 0))), (q1 + 1 + 1, .inl (k 0, 64, .inl (fun _ => 0))), (q1 + 1 + 2, .inl (k 0, 64, .inl (fun _ => 0))), (q1 + 1 + 3, .inl (k 0, 64, .inl (fun _ => 0))), (q1 + 1 + 4, .inl (k 0, 64, .inl (fun _ => 0))), (q1 + 1 + 5, .inl (k 0, 64, .inl (fun _ => 0))), (q1 + 1 + 6, .inl (k 0, 64, .inl (fun _ => 0)))] := hD
  refine lv_aload_n hx hb d_A_init_16 rfl (lv_at hl 0 rfl) ?_
  refine lv_iconst (v := 4) hx hb d_A_init_17 (by decide) ?_
  refine lv_iconst (v := 4) hx hb d_A_init_18 (by decide) ?_
  refine z_mna C hI hP hD hS hA cl_A_11 (N' := 4) (K' := 4) (by decide) (by decide) (by decide) (by decide) (by decide) (by decide) (Nat.le_of_ble_eq_true rfl) (Nat.le_of_ble_eq_true rfl) d_A_init_19 (fun q2 H hP hD hS => ?_)
  have hP : va_P (dC, dI) zCl [(h0, .inr (1, [.ref q1, .null, .int 0])), (q1, .inl (k 2, 7, .inr (.inr (.inr (.inr (fun i => some (q1 + 1 + i))))))), (q1 + 1 + 0, .inl (k 0, 64, .inl (fun _ => 0))), (q1 + 1 + 1, .inl (k 0, 64, .inl (fun _ => 0))), (q1 + 1 + 2, .inl (k 0, 64, .inl (fun _ => 0))), (q1 + 1 + 3, .inl (k 0, 64, .inl (fun _ => 0))), (q1 + 1 + 4, .inl (k 0, 64, .inl (fun _ => 0))), (q1 + 1 + 5, .inl (k 0, 64, .inl (fun _ => 0))), (q1 + 1 + 6, .inl (k 0, 64, .inl (fun _ => 0))), (q2, .inl (k 2, 4, .inr (.inr (.inr (.inr (fun i => some (q2 + 1 + i))))))), (q2 + 1 + 0, .inl (k 0, 4, .inl (fun _ => 0))), (q2 + 1 + 1, .inl (k 0, 4, .inl (fun _ => 0))), (q2 + 1 + 2, .inl (k 0, 4, .inl (fun _ => 0))), (q2 + 1 + 3, .inl (k 0, 4, .inl (fun _ => 0)))] H := hP
  have hD : va_D A [(h0, .inr (1, [.ref q1, .null, .int 0])), (q1, .inl (k 2, 7, .inr (.inr (.inr (.inr (fun i => some (q1 + 1 + i))))))), (q1 + 1 + 0, .inl (k 0, 64, .inl (fun _ => 0))), (q1 + 1 + 1, .inl (k 0, 64, .inl (fun _ => 0))), (q1 + 1 + 2, .inl (k 0, 64, .inl (fun _ => 0))), (q1 + 1 + 3, .inl (k 0, 64, .inl (fun _ => 0))), (q1 + 1 + 4, .inl (k 0, 64, .inl (fun _ => 0))), (q1 + 1 + 5, .inl (k 0, 64, .inl (fun _ => 0))), (q1 + 1 + 6, .inl (k 0, 64, .inl (fun _ => 0))), (q2, .inl (k 2, 4, .inr (.inr (.inr (.inr (fun i => some (q2 + 1 + i))))))), (q2 + 1 + 0, .inl (k 0, 4, .inl (fun _ => 0))), (q2 + 1 + 1, .inl (k 0, 4, .inl (fun _ => 0))), (q2 + 1 + 2, .inl (k 0, 4, .inl (fun _ => 0))), (q2 + 1 + 3, .inl (k 0, 4, .inl (fun _ => 0)))] := hD
  refine va_putF (D := (dC, dI)) (ci := 1) (v := .ref q2) (ty := .array (.array .int)) (C := R_A) (T := F_A) (N := 3) hx hb C.2.2.2.2.1 u_A t_A to_A n_A C.2.2.2.1 C.2.2.2.2.2.1 hP hD hS 0 rfl rfl 1 (by decide) (C.2.2.2.2.1 _ fl_A_16) (fun _ h9 => h9) rfl hin rfl (by decide +kernel) rfl rfl (Nat.le_of_ble_eq_true rfl) d_A_init_23 (fun H locs hP hD hS => ?_)
  have hP : va_P (dC, dI) zCl [(h0, .inr (1, [.ref q1, .ref q2, .int 0])), (q1, .inl (k 2, 7, .inr (.inr (.inr (.inr (fun i => some (q1 + 1 + i))))))), (q1 + 1 + 0, .inl (k 0, 64, .inl (fun _ => 0))), (q1 + 1 + 1, .inl (k 0, 64, .inl (fun _ => 0))), (q1 + 1 + 2, .inl (k 0, 64, .inl (fun _ => 0))), (q1 + 1 + 3, .inl (k 0, 64, .inl (fun _ => 0))), (q1 + 1 + 4, .inl (k 0, 64, .inl (fun _ => 0))), (q1 + 1 + 5, .inl (k 0, 64, .inl (fun _ => 0))), (q1 + 1 + 6, .inl (k 0, 64, .inl (fun _ => 0))), (q2, .inl (k 2, 4, .inr (.inr (.inr (.inr (fun i => some (q2 + 1 + i))))))), (q2 + 1 + 0, .inl (k 0, 4, .inl (fun _ => 0))), (q2 + 1 + 1, .inl (k 0, 4, .inl (fun _ => 0))), (q2 + 1 + 2, .inl (k 0, 4, .inl (fun _ => 0))), (q2 + 1 + 3, .inl (k 0, 4, .inl (fun _ => 0)))] H := hP
  have hD : va_D A [(h0, .inr (1, [.ref q1, .ref q2, .int 0])), (q1, .inl (k 2, 7, .inr (.inr (.inr (.inr (fun i => some (q1 + 1 + i))))))), (q1 + 1 + 0, .inl (k 0, 64, .inl (fun _ => 0))), (q1 + 1 + 1, .inl (k 0, 64, .inl (fun _ => 0))), (q1 + 1 + 2, .inl (k 0, 64, .inl (fun _ => 0))), (q1 + 1 + 3, .inl (k 0, 64, .inl (fun _ => 0))), (q1 + 1 + 4, .inl (k 0, 64, .inl (fun _ => 0))), (q1 + 1 + 5, .inl (k 0, 64, .inl (fun _ => 0))), (q1 + 1 + 6, .inl (k 0, 64, .inl (fun _ => 0))), (q2, .inl (k 2, 4, .inr (.inr (.inr (.inr (fun i => some (q2 + 1 + i))))))), (q2 + 1 + 0, .inl (k 0, 4, .inl (fun _ => 0))), (q2 + 1 + 1, .inl (k 0, 4, .inl (fun _ => 0))), (q2 + 1 + 2, .inl (k 0, 4, .inl (fun _ => 0))), (q2 + 1 + 3, .inl (k 0, 4, .inl (fun _ => 0)))] := hD
  refine lv_aload_n hx hb d_A_init_26 rfl (lv_at hl 0 rfl) ?_
  refine lv_iconst (v := 0) hx hb d_A_init_27 (by decide) ?_
  refine va_put (D := (dC, dI)) (ci := 1) (v := .int 0) (ty := .int) (C := R_A) (T := F_A) (N := 3) hx hb C.2.2.2.2.1 u_A t_A to_A n_A C.2.2.2.1 C.2.2.2.2.2.1 hP hD hS 0 rfl rfl 2 (by decide) (C.2.2.2.2.1 _ fl_A_19) (fun _ h9 => h9) rfl (by decide +kernel) rfl rfl (Nat.le_of_ble_eq_true rfl) d_A_init_28 (fun H locs hP hD hS => ?_)
  have hP : va_P (dC, dI) zCl [(h0, .inr (1, [.ref q1, .ref q2, .int 0])), (q1, .inl (k 2, 7, .inr (.inr (.inr (.inr (fun i => some (q1 + 1 + i))))))), (q1 + 1 + 0, .inl (k 0, 64, .inl (fun _ => 0))), (q1 + 1 + 1, .inl (k 0, 64, .inl (fun _ => 0))), (q1 + 1 + 2, .inl (k 0, 64, .inl (fun _ => 0))), (q1 + 1 + 3, .inl (k 0, 64, .inl (fun _ => 0))), (q1 + 1 + 4, .inl (k 0, 64, .inl (fun _ => 0))), (q1 + 1 + 5, .inl (k 0, 64, .inl (fun _ => 0))), (q1 + 1 + 6, .inl (k 0, 64, .inl (fun _ => 0))), (q2, .inl (k 2, 4, .inr (.inr (.inr (.inr (fun i => some (q2 + 1 + i))))))), (q2 + 1 + 0, .inl (k 0, 4, .inl (fun _ => 0))), (q2 + 1 + 1, .inl (k 0, 4, .inl (fun _ => 0))), (q2 + 1 + 2, .inl (k 0, 4, .inl (fun _ => 0))), (q2 + 1 + 3, .inl (k 0, 4, .inl (fun _ => 0)))] H := hP
  have hD : va_D A [(h0, .inr (1, [.ref q1, .ref q2, .int 0])), (q1, .inl (k 2, 7, .inr (.inr (.inr (.inr (fun i => some (q1 + 1 + i))))))), (q1 + 1 + 0, .inl (k 0, 64, .inl (fun _ => 0))), (q1 + 1 + 1, .inl (k 0, 64, .inl (fun _ => 0))), (q1 + 1 + 2, .inl (k 0, 64, .inl (fun _ => 0))), (q1 + 1 + 3, .inl (k 0, 64, .inl (fun _ => 0))), (q1 + 1 + 4, .inl (k 0, 64, .inl (fun _ => 0))), (q1 + 1 + 5, .inl (k 0, 64, .inl (fun _ => 0))), (q1 + 1 + 6, .inl (k 0, 64, .inl (fun _ => 0))), (q2, .inl (k 2, 4, .inr (.inr (.inr (.inr (fun i => some (q2 + 1 + i))))))), (q2 + 1 + 0, .inl (k 0, 4, .inl (fun _ => 0))), (q2 + 1 + 1, .inl (k 0, 4, .inl (fun _ => 0))), (q2 + 1 + 2, .inl (k 0, 4, .inl (fun _ => 0))), (q2 + 1 + 3, .inl (k 0, 4, .inl (fun _ => 0)))] := hD
  exact z_conret C (fun i => [q1, q2].getD i 0) hP hD hS hr hk d_A_init_31
