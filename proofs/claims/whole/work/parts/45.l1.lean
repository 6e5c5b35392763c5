/-! the law's start: classes, array classes, one world out of the two made, the first value -/
theorem z_known {s : State} {args : Array Value} (hts : ∀ w ∈ lw_tbl, w.before args s = true) : ∃ (dC : Nat → ClassId) (dI : Nat → Nat → Nat) (k : Nat → ClassId), va_K (dC, dI) zCl (zT k) s := by
  have hz : ∀ w ∈ zB, w.before args s = true := fun w hw => hts w (zB_tbl hw)
  obtain ⟨c0, i0, h0⟩ := u_known hz u_S (hz _ is_S)
  obtain ⟨c1, i1, h1⟩ := u_known hz u_A (hz _ is_A)
  obtain ⟨c2, i2, h2⟩ := u_known hz u_C (hz _ is_C)
  obtain ⟨c3, i3, h3⟩ := u_known hz u_H (hz _ is_H)
  obtain ⟨c4, i4, h4⟩ := u_known hz u_M (hz _ is_M)
  obtain ⟨kI, KI, compI, fI, gI, eI⟩ := Cond.arrayClass_spec (hz _ ac_int)
  obtain ⟨kZ, KZ, compZ, fZ, gZ, eZ⟩ := Cond.arrayClass_spec (hz _ ac_boolean)
  obtain ⟨compA, kA, KA, fA0, fA, gA, eA⟩ := zAI_of (hts _ ao_array)
  obtain ⟨compC, kC, KC, fC0, -, gC, eC, fC⟩ := Cond.arrayOver_spec (hts _ ao_object)
  refine ⟨fun i => match i with | 0 => c0 | 1 => c1 | 2 => c2 | 3 => c3 | _ => c4, fun i => match i with | 0 => i0 | 1 => i1 | 2 => i2 | 3 => i3 | _ => i4, fun i => match i with | 0 => kI | 1 => kZ | 2 => kA | _ => kC, fun c q hq => ?_, fun j q hq => ?_⟩
  · match c, hq with
    | 0, hq => cases hq; exact h0
    | 1, hq => cases hq; exact h1
    | 2, hq => cases hq; exact h2
    | 3, hq => cases hq; exact h3
    | 4, hq => cases hq; exact h4
    | n + 5, hq => cases hq
  · match j, hq with
    | 0, hq => cases hq; exact ⟨fun n z => ⟨fun k h => (by cases h), KI, gI, compI, eI⟩, fI⟩
    | 1, hq => cases hq; exact ⟨fun n z => ⟨fun k h => (by cases h), KZ, gZ, compZ, eZ⟩, fZ⟩
    | 2, hq => cases hq; exact ⟨fun n z => ⟨fun k h => (by cases h), KA, gA, compA, eA⟩, fA⟩
    | 3, hq => cases hq; exact ⟨fun n z => ⟨fun k h => (by cases h), KC, gC, compC, eC⟩, KC, compC, gC, eC, fC0, fC⟩
    | n + 4, hq => cases hq
set_option maxRecDepth 100000 in
theorem z_comb {D : va_G} {A : Nat → Prop} {k : Nat → ClassId} {H : Heap} {a b : Nat} {r1 r2 : Nat → Nat} (hP : va_P D zCl ((zW (zq 0 a r1) k (fun _ _ _ => 0) (fun _ _ => 0)).take 37 ++ (zW (zq 37 b r2) k (fun _ _ _ => 0) (fun _ _ => 0)).drop 37) H) (hD : va_D A ((zW (zq 0 a r1) k (fun _ _ _ => 0) (fun _ _ => 0)).take 37 ++ (zW (zq 37 b r2) k (fun _ _ _ => 0) (fun _ _ => 0)).drop 37)) : ∃ q : Nat → Nat, q 0 = a ∧ q 37 = b ∧ va_P D zCl (zW q k (fun _ _ _ => 0) (fun _ _ => 0)) H ∧ va_D A (zW q k (fun _ _ _ => 0) (fun _ _ => 0)) := by
  obtain ⟨hP, hD⟩ := z_refn (g := fun i => some (if 3 + i < 37 then zq 0 a r1 (3 + i) else zq 37 b r2 (3 + i))) hP hD (i := 2) rfl (fun j hj => by rw [if_pos (show 3 + j < 37 by omega)])
  obtain ⟨hP, hD⟩ := z_refn (g := fun i => some (if 11 + i < 37 then zq 0 a r1 (11 + i) else zq 37 b r2 (11 + i))) hP hD (i := 10) rfl (fun j hj => by rw [if_pos (show 11 + j < 37 by omega)])
  obtain ⟨hP, hD⟩ := z_refn (g := fun i => some (if 16 + 4 * i < 37 then zq 0 a r1 (16 + 4 * i) else zq 37 b r2 (16 + 4 * i))) hP hD (i := 15) rfl (fun j hj => by rw [if_pos (show 16 + 4 * j < 37 by omega)])
  exact ⟨fun i => if i < 37 then zq 0 a r1 i else zq 37 b r2 i, rfl, rfl, hP, hD⟩
theorem INV_0 : INV ([], fun _ _ _ => 0, fun _ _ _ => 0) := by
  have le : ∀ n : Nat, (0 : Nat) ≤ n := Nat.zero_le
  refine ⟨⟨(fun m hm => absurd hm List.not_mem_nil), List.Pairwise.nil, fun a _ => ?_, fun c _ => ⟨le _, le _, (fun l _ h => absurd h (by show ¬ 4 ≤ 0; omega)), (fun l l' _ _ h => absurd h (by show ¬ 4 ≤ 0; omega)), fun l _ h => rfl⟩⟩, fun c l _ _ => ⟨le _, le _⟩⟩
  refine ⟨fun c _ => ?_, ?_, ?_, le _, (show 0 < 4 by omega), (show 0 < 16 by omega), fun _ => rfl, fun c => le _⟩
  · simp [pv_lc, pv_cn_nil, pv_oc, pv_sb]
  · simp [pv_s4, pv_xv, pv_k1, pv_cn_nil]
  · simp [pv_s4, pv_k3, pv_cn_nil]
theorem RR_0 : RR (fun _ _ _ => 0) (fun _ _ => 0) := by
  refine ⟨_, INV_0, fun t c l h => ?_, fun t i h => ?_⟩
  · simp only [pq_xd, List.length_nil] at h
    rcases (show t = 0 ∨ t = 1 ∨ t = 2 ∨ t = 3 ∨ t = 4 ∨ t = 5 ∨ t = 6 ∨ t = 7 ∨ t = 8 ∨ t = 9 ∨ t = 10 ∨ t = 11 ∨ t = 12 ∨ t = 13 ∨ t = 14 by omega) with rfl | rfl | rfl | rfl | rfl | rfl | rfl | rfl | rfl | rfl | rfl | rfl | rfl | rfl | rfl
    · exfalso; omega
    all_goals first | rfl | (show (0 : Int32) = nI 0 - nI 0; decide)
  · simp only [pq_md, List.length_nil] at h
    rcases (show t = 0 ∨ t = 1 ∨ t = 2 ∨ t = 3 ∨ t = 4 ∨ t = 5 ∨ t = 7 ∨ t = 8 ∨ t = 9 ∨ t = 10 ∨ t = 11 ∨ t = 12 ∨ t = 13 ∨ t = 14 ∨ t = 15 by omega) with rfl | rfl | rfl | rfl | rfl | rfl | rfl | rfl | rfl | rfl | rfl | rfl | rfl | rfl | rfl <;> rfl
