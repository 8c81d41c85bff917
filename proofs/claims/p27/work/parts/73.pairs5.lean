theorem tak_lo {w : mv} {q i : Nat} (h : i < 687) : takV w q i = w i := by
  show (if i = 687 + 688 * q then (1 : Int32) else if 688 + 688 * q ≤ i ∧ i < 1375 + 688 * q then w (i - (688 + 688 * q)) else w i) = w i
  rw [if_neg (by omega), if_neg (by omega)]
theorem tak_flag {w : mv} {q : Nat} : takV w q (687 + 688 * q) = 1 := if_pos rfl
theorem tak_in {w : mv} {q j : Nat} (hj : j < 687) : takV w q (688 + 688 * q + j) = w j := by
  show (if 688 + 688 * q + j = 687 + 688 * q then (1 : Int32) else if 688 + 688 * q ≤ 688 + 688 * q + j ∧ 688 + 688 * q + j < 1375 + 688 * q then w (688 + 688 * q + j - (688 + 688 * q)) else w (688 + 688 * q + j)) = w j
  rw [if_neg (by omega), if_pos (by omega)]
  exact congrArg w (by omega)
theorem tak_o {w : mv} {q i : Nat} (h : i < 687 + 688 * q ∨ 1375 + 688 * q ≤ i) : takV w q i = w i := by
  show (if i = 687 + 688 * q then (1 : Int32) else if 688 + 688 * q ≤ i ∧ i < 1375 + 688 * q then w (i - (688 + 688 * q)) else w i) = w i
  rw [if_neg (by omega), if_neg (by omega)]
theorem res_lo {w : mv} {q i : Nat} (h : i < 687) : resV w q i = w (688 + 688 * q + i) := if_pos h
theorem res_o {w : mv} {q i : Nat} (h : 687 ≤ i) : resV w q i = w i := if_neg (by omega)
section P5
variable {I : mj_I}
theorem slot_B {q : Nat} (hq : q < 2) : mj_isB (4 + 16 + 2 + 15 * q) := mj_S4.2.2.2.2.1 q hq
theorem RS_tak {I1 I2 : mj_I} {w : mv} {q : Nat} (hq : q < 2) (hS : RS I1 4 w) (g1 : RB I2 (4 + 16 + 2 + 15 * q) w) (g2 : I2 (4 + 17) = upd (I1 (4 + 17)) q 1) (g3 : ∀ o, o ≠ 4 + 17 → (o < 4 + 16 + 2 + 15 * q ∨ 4 + 16 + 2 + 15 * q + 15 ≤ o) → I2 o = I1 o) : RS I2 4 (takV w q) := by
  obtain ⟨a, b, c, d⟩ := hS
  have hle := b.1.2
  have elo : ∀ i, i < 687 → takV w q i = w i := fun i hi => tak_lo hi
  refine ⟨RB_ext hle (RB_fr (fun o h1 h2 => g3 o (by omega) (by omega)) a) elo, IV_ext b elo, ZB_ext c elo, fun r hr => ?_⟩
  by_cases e : r = q
  · subst e
    have es : ∀ i, i < 687 → sl (takV w r) r i = w i := fun i hi => tak_in hi
    rw [g2, up_s, tak_flag]
    exact ⟨rfl, Or.inr rfl, fun _ => ⟨RB_ext hle g1 es, IV_ext b es, ZB_ext c es⟩⟩
  · obtain ⟨x, y, z⟩ := d r hr
    have ef : takV w q (687 + 688 * r) = w (687 + 688 * r) := tak_o (by omega)
    have es : ∀ i, i < 687 → sl (takV w q) r i = sl w r i := fun i hi => tak_o (by omega)
    rw [g2, up_n e, ef]
    refine ⟨x, y, fun h1 => ?_⟩
    obtain ⟨z1, z2, z3⟩ := z h1
    exact ⟨RB_ext z2.1.2 (RB_fr (fun o h1 h2 => g3 o (by omega) (by omega)) z1) es, IV_ext z2 es, ZB_ext z3 es⟩
theorem RS_res {I1 I2 : mj_I} {w : mv} {q : Nat} (hS : RS I1 4 w) (hv : IV (sl w q)) (hz : ZB (sl w q)) (g1 : RB I2 5 (sl w q)) (g2 : Fr 5 I1 I2) : RS I2 4 (resV w q) := by
  have es : ∀ i, i < 687 → resV w q i = sl w q i := fun i hi => res_lo hi
  exact RS_bk hS (RB_ext hv.1.2 g1 es) (IV_ext hv es) (ZB_ext hz es) (fun i hi => res_o hi) g2
/-! undo -/
theorem X9_undo_ill (h : I 52 2 = 0) : mj_R D_X9_undo [.inr (some 0)] (mj_w I) (mj_ex (some (.inl (-100000002))) I) := by
  have m0 := s_0
  have m52 := s_52
  refine mj_enter (by decide +kernel) (Nat.le_of_ble_eq_true rfl) ?_
  refine J_ald S_X9_undo rfl rfl ?_
  refine J_getR S_X9_undo rfl (o' := 52) (by assumption) (by omega) rfl ?_
  refine J_getI S_X9_undo rfl (by assumption) (by omega) ?_
  refine J_if S_X9_undo rfl (fun c7 => False.elim (c7 h)) (fun c7 => ?_)
  refine J_C S_X9_undo rfl ?_
  refine J_retI S_X9_undo rfl ?_
  exact ⟨rfl, rfl⟩
theorem X9_undo_ok {p : mv} {o n : Nat} (h : RH I o (n + 1) p) : mj_R D_X9_undo [.inr (some 0)] (mj_w I) (mj_px (fun r I' => r = some (.inl (nI n)) ∧ (∀ q, (q < 4 ∨ 294 ≤ q) → I' q = I q) ∧ RS I' 4 (fun j => p (2063 * n + j)) ∧ RH I' o n p)) := by
  have m0 := s_0
  have m52 := s_52
  have hr := C_X1_removeLatestInto h
  have n5 : n + 1 ≤ 5 := h.2.2.2.1
  refine mj_enter (by decide +kernel) (Nat.le_of_ble_eq_true rfl) ?_
  refine J_ald S_X9_undo rfl rfl ?_
  refine J_getR S_X9_undo rfl (o' := 52) (by assumption) (by omega) rfl ?_
  refine J_getI S_X9_undo rfl (by assumption) (by omega) ?_
  rw [h.2.1]
  refine J_if S_X9_undo rfl (fun c7 => ?_) (fun c7 => False.elim (nI_ne0 (by omega) (by omega) c7))
  refine J_ald S_X9_undo rfl rfl ?_
  refine J_getR S_X9_undo rfl (o' := 52) (by assumption) (by omega) rfl ?_
  refine J_ald S_X9_undo rfl rfl ?_
  refine J_getR S_X9_undo rfl (o' := 4) (by assumption) (by omega) rfl ?_
  refine J_CV S_X9_undo rfl rfl (by assumption) (by omega) (by simp) (hr) ?_
  rintro _ _ ⟨I2, rfl, rfl, g1, g2, g3⟩
  refine J_ald S_X9_undo rfl rfl ?_
  refine J_getR S_X9_undo rfl (o' := 52) (by assumption) (by omega) rfl ?_
  refine J_getI S_X9_undo rfl (by assumption) (by omega) ?_
  refine J_retI S_X9_undo rfl ?_
  exact ⟨I2, rfl, by rw [g3.2.1], g1, g2, g3⟩
/-! the text -/
theorem X9_append_no {a : Int32} (h : ¬ (1 ≤ a ∧ a ≤ 255)) : mj_R D_X9_append [.inr (some 0), .inl a] (mj_w I) (mj_ex (some (.inl (-100000001))) I) := by
  refine mj_enter (by decide +kernel) (Nat.le_of_ble_eq_true rfl) ?_
  refine J_ild S_X9_append rfl rfl ?_
  refine J_C S_X9_append rfl ?_
  refine J_cmp S_X9_append rfl (fun c2 => ?_) (fun c2 => ?_)
  · refine J_C S_X9_append rfl ?_
    refine J_retI S_X9_append rfl ?_
    exact ⟨rfl, rfl⟩
  · refine J_ild S_X9_append rfl rfl ?_
    refine J_C S_X9_append rfl ?_
    refine J_cmp S_X9_append rfl (fun c9 => ?_) (fun c9 => ?_)
    · exact absurd ⟨Int32.not_lt.mp c2, c9⟩ h
    · refine J_C S_X9_append rfl ?_
      refine J_retI S_X9_append rfl ?_
      exact ⟨rfl, rfl⟩
theorem X9_append_full {a : Int32} (h : 1 ≤ a ∧ a ≤ 255) (hf : I 2 1 = nI 40) : mj_R D_X9_append [.inr (some 0), .inl a] (mj_w I) (mj_ex (some (.inl (-100000003))) I) := by
  have m0 := s_0
  have m1 := s_1
  have m2 := s_2
  have hfl := C_X7_isFull (I := I) (n := 40) (by decide) hf
  refine mj_enter (by decide +kernel) (Nat.le_of_ble_eq_true rfl) ?_
  refine J_ild S_X9_append rfl rfl ?_
  refine J_C S_X9_append rfl ?_
  refine J_cmp S_X9_append rfl (fun c2 => False.elim (Int32.not_lt.mpr h.1 c2)) (fun c2 => ?_)
  refine J_ild S_X9_append rfl rfl ?_
  refine J_C S_X9_append rfl ?_
  refine J_cmp S_X9_append rfl (fun c9 => ?_) (fun c9 => False.elim (c9 h.2))
  refine J_ald S_X9_append rfl rfl ?_
  refine J_getR S_X9_append rfl (o' := 1) (by assumption) (by omega) rfl ?_
  refine J_getR S_X9_append rfl (o' := 2) (by assumption) (by omega) rfl ?_
  refine J_CVx S_X9_append rfl rfl (by assumption) (by omega) (by simp) (hfl) rfl ?_
  refine J_if S_X9_append rfl (fun c25 => False.elim (absurd c25 (by decide))) (fun c25 => ?_)
  refine J_C S_X9_append rfl ?_
  refine J_retI S_X9_append rfl ?_
  exact ⟨rfl, rfl⟩
theorem X9_append_ok {a : Int32} {L : Nat} (h : 1 ≤ a ∧ a ≤ 255) (hL : L < 40) (hf : I 2 1 = nI L) : mj_R D_X9_append [.inr (some 0), .inl a] (mj_w I) (mj_ex (some (.inl (nI (L + 1)))) (mj_up (mj_up I 3 L a) 2 1 (nI (L + 1)))) := by
  have m0 := s_0
  have m1 := s_1
  have m2 := s_2
  have hfl := C_X7_isFull (I := I) (n := L) (by omega) hf
  rw [if_pos hL] at hfl
  refine mj_enter (by decide +kernel) (Nat.le_of_ble_eq_true rfl) ?_
  refine J_ild S_X9_append rfl rfl ?_
  refine J_C S_X9_append rfl ?_
  refine J_cmp S_X9_append rfl (fun c2 => False.elim (Int32.not_lt.mpr h.1 c2)) (fun c2 => ?_)
  refine J_ild S_X9_append rfl rfl ?_
  refine J_C S_X9_append rfl ?_
  refine J_cmp S_X9_append rfl (fun c9 => ?_) (fun c9 => False.elim (c9 h.2))
  refine J_ald S_X9_append rfl rfl ?_
  refine J_getR S_X9_append rfl (o' := 1) (by assumption) (by omega) rfl ?_
  refine J_getR S_X9_append rfl (o' := 2) (by assumption) (by omega) rfl ?_
  refine J_CVx S_X9_append rfl rfl (by assumption) (by omega) (by simp) (hfl) rfl ?_
  refine J_if S_X9_append rfl (fun c25 => ?_) (fun c25 => False.elim (c25 rfl))
  refine J_ald S_X9_append rfl rfl ?_
  refine J_getR S_X9_append rfl (o' := 1) (by assumption) (by omega) rfl ?_
  refine J_getR S_X9_append rfl (o' := 2) (by assumption) (by omega) rfl ?_
  refine J_ild S_X9_append rfl rfl ?_
  refine J_CVx S_X9_append rfl rfl (by assumption) (by omega) (by simp) (C_X7_add hL hf) rfl ?_
  refine J_ald S_X9_append rfl rfl ?_
  refine J_getR S_X9_append rfl (o' := 1) (by assumption) (by omega) rfl ?_
  refine J_getR S_X9_append rfl (o' := 2) (by assumption) (by omega) rfl ?_
  refine J_getI S_X9_append rfl (by assumption) (by omega) ?_
  rw [mj_up_eq, up_s]
  refine J_retI S_X9_append rfl ?_
  exact ⟨rfl, rfl⟩
theorem X9_clearText_ok : mj_R D_X9_clearText [.inr (some 0)] (mj_w I) (mj_ex (some (.inl (I 2 1))) (mj_up I 2 1 0)) := by
  have m0 := s_0
  have m1 := s_1
  have m2 := s_2
  refine mj_enter (by decide +kernel) (Nat.le_of_ble_eq_true rfl) ?_
  refine J_ald S_X9_clearText rfl rfl ?_
  refine J_getR S_X9_clearText rfl (o' := 1) (by assumption) (by omega) rfl ?_
  refine J_getR S_X9_clearText rfl (o' := 2) (by assumption) (by omega) rfl ?_
  refine J_getI S_X9_clearText rfl (by assumption) (by omega) ?_
  refine J_ist S_X9_clearText rfl rfl ?_
  refine J_ald S_X9_clearText rfl rfl ?_
  refine J_getR S_X9_clearText rfl (o' := 1) (by assumption) (by omega) rfl ?_
  refine J_getR S_X9_clearText rfl (o' := 2) (by assumption) (by omega) rfl ?_
  refine J_CVx S_X9_clearText rfl rfl (by assumption) (by omega) (by simp) (C_X7_empty) rfl ?_
  refine J_ild S_X9_clearText rfl rfl ?_
  refine J_retI S_X9_clearText rfl ?_
  exact ⟨rfl, rfl⟩
end P5
