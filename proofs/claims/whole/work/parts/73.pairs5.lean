theorem tak_lo {w : mv} {q i : Nat} (h : i < 687) : takV w q i = w i := by
  show (if i = 687 + 688 * q then (1 : Int32) else if 688 + 688 * q ≤ i ∧ i < 1375 + 688 * q then w (i - (688 + 688 * q)) else w i) = w i
  rw [if_neg (by omega), if_neg (by omega)]
theorem tak_flag {w : mv} {q : Nat} : takV w q (687 + 688 * q) = 1 := if_pos rfl
theorem tak_in {w : mv} {q j : Nat} (hj : j < 687) : takV w q (688 + 688 * q + j) = w j := by
  show (if 688 + 688 * q + j = 687 + 688 * q then (1 : Int32) else if 688 + 688 * q ≤ 688 + 688 * q + j ∧ 688 + 688 * q + j < 1375 + 688 * q then w (688 + 688 * q + j - (688 + 688 * q)) else w (688 + 688 * q + j)) = w j
  rw [if_neg (by omega), if_pos (by omega)]
  exact congrArg w (by omega)
theorem tak_o {w : mv} {q i : Nat} (h : i < 687 + 688 * q ∨ 1375 + 688 * q ≤ i) : takV w q i = w i := by
  show (if i = 687 + 688 * q then (1 : Int32) else if 688 + 688 * q ≤ i ∧ i < 1375 + 688 * q then w (i - (688 + 688 * q)) else w i) = w i
  rw [if_neg (by omega), if_neg (by omega)]
theorem res_lo {w : mv} {q i : Nat} (h : i < 687) : resV w q i = w (688 + 688 * q + i) := if_pos h
theorem res_o {w : mv} {q i : Nat} (h : 687 ≤ i) : resV w q i = w i := if_neg (by omega)
section P5
variable {I : mj_I}
theorem slot_B {q : Nat} (hq : q < 2) : mj_isB (4 + 16 + 2 + 15 * q) := mj_S4.2.2.2.2.1 q hq
/-! take -/
theorem X9_take_no {a : Int32} (h : ¬ (0 ≤ a ∧ a ≤ 1)) : mj_R D_X9_take [.inr (some 0), .inl a] (mj_w I) (mj_ex (some (.inl (-100000001))) I) := by
  refine mj_enter (by decide +kernel) (Nat.le_of_ble_eq_true rfl) ?_
  refine J_ild S_X9_take rfl rfl ?_
  refine J_if S_X9_take rfl (fun c1 => ?_) (fun c1 => ?_)
  · refine J_C S_X9_take rfl ?_
    refine J_retI S_X9_take rfl ?_
    exact ⟨rfl, rfl⟩
  · refine J_ild S_X9_take rfl rfl ?_
    refine J_C S_X9_take rfl ?_
    refine J_cmp S_X9_take rfl (fun c6 => ?_) (fun c6 => ?_)
    · exact absurd ⟨Int32.not_lt.mp c1, (i_lt2 a).mp c6⟩ h
    · refine J_C S_X9_take rfl ?_
      refine J_retI S_X9_take rfl ?_
      exact ⟨rfl, rfl⟩
theorem RS_tak {I1 I2 : mj_I} {w : mv} {q : Nat} (hq : q < 2) (hS : RS I1 4 w) (g1 : RB I2 (4 + 16 + 2 + 15 * q) w) (g2 : I2 (4 + 17) = upd (I1 (4 + 17)) q 1) (g3 : ∀ o, o ≠ 4 + 17 → (o < 4 + 16 + 2 + 15 * q ∨ 4 + 16 + 2 + 15 * q + 15 ≤ o) → I2 o = I1 o) : RS I2 4 (takV w q) := by
  obtain ⟨a, b, c, d⟩ := hS
  have hle := b.1.2
  have elo : ∀ i, i < 687 → takV w q i = w i := fun i hi => tak_lo hi
  refine ⟨RB_ext hle (RB_fr (fun o h1 h2 => g3 o (by omega) (by omega)) a) elo, IV_ext b elo, ZB_ext c elo, fun r hr => ?_⟩
  by_cases e : r = q
  · subst e
    have es : ∀ i, i < 687 → sl (takV w r) r i = w i := fun i hi => tak_in hi
    rw [g2, up_s, tak_flag]
    exact ⟨rfl, Or.inr rfl, fun _ => ⟨RB_ext hle g1 es, IV_ext b es, ZB_ext c es⟩⟩
  · obtain ⟨x, y, z⟩ := d r hr
    have ef : takV w q (687 + 688 * r) = w (687 + 688 * r) := tak_o (by omega)
    have es : ∀ i, i < 687 → sl (takV w q) r i = sl w r i := fun i hi => tak_o (by omega)
    rw [g2, up_n e, ef]
    refine ⟨x, y, fun h1 => ?_⟩
    obtain ⟨z1, z2, z3⟩ := z h1
    exact ⟨RB_ext z2.1.2 (RB_fr (fun o h1 h2 => g3 o (by omega) (by omega)) z1) es, IV_ext z2 es, ZB_ext z3 es⟩
theorem X9_take_ok {w p : mv} {o n L : Nat} {f : Nat → Int32} (hc : CR I w p o n L f) {q : Nat} (hq : q < 2) : mj_R D_X9_take [.inr (some 0), .inl (nI q)] (mj_w I) (mj_px (fun r I2 => r = some (.inl (w 0)) ∧ ∃ I1, RC I I1 w p o n ∧ RS I2 4 (takV w q) ∧ ∀ o, (o < 4 ∨ 52 ≤ o) → I2 o = I1 o)) := by
  have m0 := s_0
  have m4 := mj_S4.1
  have m5 := mj_B5.1
  have m6 : mj_sh 6 = (2, 3) := mj_B5.2.1
  have m52 := s_52
  have hrec := Z_rec hc
  have hk := fun (I1 : mj_I) (hr : RC I I1 w p o n) => C_X5_keepIn (I := I1) (b' := 5) mj_S4 hq mj_B5 (by omega) (RC_R hc hr).1 hc.1.2.1
  refine mj_enter (by decide +kernel) (Nat.le_of_ble_eq_true rfl) ?_
  refine J_ild S_X9_take rfl rfl ?_
  refine J_if S_X9_take rfl (fun c1 => False.elim (nI_pos (by omega) c1)) (fun c1 => ?_)
  refine J_ild S_X9_take rfl rfl ?_
  refine J_C S_X9_take rfl ?_
  refine J_cmp S_X9_take rfl (fun c6 => ?_) (fun c6 => False.elim (c6 (nI_lt (b := 2) hq (by decide))))
  refine J_ald S_X9_take rfl rfl ?_
  refine J_getR S_X9_take rfl (o' := 52) (by assumption) (by omega) rfl ?_
  refine J_ald S_X9_take rfl rfl ?_
  refine J_getR S_X9_take rfl (o' := 4) (by assumption) (by omega) rfl ?_
  refine J_CV S_X9_take rfl rfl (by assumption) (by omega) (by simp) (hrec) ?_
  rintro _ _ ⟨I1, rfl, rfl, hr⟩
  refine J_ald S_X9_take rfl rfl ?_
  refine J_getR S_X9_take rfl (o' := 4) (by assumption) (by omega) rfl ?_
  refine J_ild S_X9_take rfl rfl ?_
  refine J_ald S_X9_take rfl rfl ?_
  refine J_getR S_X9_take rfl (o' := 4) (by assumption) (by omega) rfl ?_
  refine J_getR S_X9_take rfl (o' := 5) (by assumption) (by omega) rfl ?_
  refine J_CV S_X9_take rfl rfl (by assumption) (by omega) (by simp) (hk I1 hr) ?_
  rintro _ _ ⟨I2, rfl, rfl, g1, g2, g3⟩
  refine J_ald S_X9_take rfl rfl ?_
  refine J_getR S_X9_take rfl (o' := 4) (by assumption) (by omega) rfl ?_
  refine J_getR S_X9_take rfl (o' := 5) (by assumption) (by omega) rfl ?_
  refine J_getR S_X9_take rfl (o' := 6) (by assumption) (by omega) rfl ?_
  refine J_getI S_X9_take rfl (by assumption) (by omega) ?_
  refine J_retI S_X9_take rfl ?_
  have hS := RC_R hc hr
  refine ⟨I2, rfl, ?_, I1, hr, RS_tak hq hS g1 g2 g3, fun o ho => g3 o (by omega) (by omega)⟩
  rw [g3 6 (by decide) (by omega), show I1 6 2 = w 0 from hS.1.1]
theorem X10_take_no {a : Int32} (h : ¬ (0 ≤ a ∧ a ≤ 1)) : mj_R D_X10_take [.inr (some 313), .inl a] (mj_w I) (mj_ex (some (.inl (-100000001))) I) := by
  refine mj_enter (by decide +kernel) (Nat.le_of_ble_eq_true rfl) ?_
  refine J_ild S_X10_take rfl rfl ?_
  refine J_C S_X10_take rfl ?_
  refine J_C S_X10_take rfl ?_
  refine J_CSx S_X10_take rfl rfl (by simp) (in_f h) rfl ?_
  refine J_if S_X10_take rfl (fun c6 => False.elim (c6 rfl)) (fun c6 => ?_)
  refine J_C S_X10_take rfl ?_
  refine J_retI S_X10_take rfl ?_
  exact ⟨rfl, rfl⟩
theorem P_take (h : Rl I) (a : Int32) : PRI D_X9_take D_X10_take [.inl a] I := by
  have hRl := h
  obtain ⟨o, n, L, hc, h2, h4⟩ := h
  have m0 := s_0
  have m1 := s_1
  have m2 := s_2
  have m4 := mj_S4.1
  have m5 := mj_B5.1
  have m6 : mj_sh 6 = (2, 3) := mj_B5.2.1
  have m52 := s_52
  have m294 := s_294
  have hR : RB I 5 (I 314) := hc.1.1
  have hI : IV (I 314) := hc.1.2.1
  have hZ : ZB (I 314) := hc.1.2.2.1
  have hn : n ≤ 5 := hc.2.1.2.2.2.1
  have hle : tn (I 314 0) ≤ 200 := hI.1.2
  by_cases hno : 0 ≤ a ∧ a ≤ 1
  · obtain ⟨q, hq, rfl⟩ := i_rng (n := 1) (by decide) hno.1 hno.2
    refine PR_act (x := I 314 0) (n := n) (w' := takV (I 314) q) (w'' := takV (I 314) q) h4 (R_imp (X9_take_ok hc (show q < 2 by omega)) ?_) (fun I1 hu => ?_) (fun _ _ => rfl)
    · rintro r I2 ⟨g0, I1, hr, g1, g2⟩
      have g := RC_S hc hr g1 g2
      exact ⟨g0, g.2, _, g.1⟩
    · have e := hu 314 (by decide)
      have g := C_X10_take (I := I1) (n := n) (q := q) (by rw [e]; exact hI) (by rw [hu 313 (by decide)]; exact h2) hn (by omega)
      rw [e] at g
      exact g
  · exact PR_no (x := -100000001) hRl (X9_take_no hno) (fun I1 _ => X10_take_no hno)
/-! restore -/
theorem C_X5_bringBack {v : mv} {q : Nat} (hq : q < 2) (ht : I (4 + 17) q = 1) (hR : RB I (4 + 16 + 2 + 15 * q) v) (hI : IV v) : mj_R D_X5_bringBack [.inr (some 4), .inl (nI q)] (mj_w I) (mj_px (fun r I' => r = none ∧ RB I' 5 v ∧ Fr 5 I I')) := by
  have m4 := mj_S4.1
  have m5 := mj_B5.1
  have hsn := C_X5_snapshot (I := I) mj_S4 hq
  rw [if_neg (by rw [ht]; decide)] at hsn
  have hcp := C_X0_copyFrom (I := I) mj_B5 (slot_B hq) (by omega) hR hI
  refine mj_enter (by decide +kernel) (Nat.le_of_ble_eq_true rfl) ?_
  refine J_ald S_X5_bringBack rfl rfl ?_
  refine J_ild S_X5_bringBack rfl rfl ?_
  refine J_CVx S_X5_bringBack rfl rfl (by assumption) (by omega) (by simp) (hsn) rfl ?_
  refine J_ast S_X5_bringBack rfl rfl ?_
  refine J_ald S_X5_bringBack rfl rfl ?_
  refine J_nuS S_X5_bringBack rfl ?_
  refine J_ald S_X5_bringBack rfl rfl ?_
  refine J_getR S_X5_bringBack rfl (o' := 5) (by assumption) (by omega) rfl ?_
  refine J_ald S_X5_bringBack rfl rfl ?_
  refine J_CV S_X5_bringBack rfl rfl (by assumption) (by omega) (by simp) (hcp) ?_
  rintro _ _ ⟨I2, rfl, rfl, g1, g2⟩
  refine J_retV S_X5_bringBack rfl ?_
  exact ⟨I2, rfl, rfl, g1, g2⟩
theorem X9_restore_no {a : Int32} (h : ¬ (0 ≤ a ∧ a ≤ 1)) : mj_R D_X9_restore [.inr (some 0), .inl a] (mj_w I) (mj_ex (some (.inl (-100000001))) I) := by
  refine mj_enter (by decide +kernel) (Nat.le_of_ble_eq_true rfl) ?_
  refine J_ild S_X9_restore rfl rfl ?_
  refine J_if S_X9_restore rfl (fun c1 => ?_) (fun c1 => ?_)
  · refine J_C S_X9_restore rfl ?_
    refine J_retI S_X9_restore rfl ?_
    exact ⟨rfl, rfl⟩
  · refine J_ild S_X9_restore rfl rfl ?_
    refine J_C S_X9_restore rfl ?_
    refine J_cmp S_X9_restore rfl (fun c6 => ?_) (fun c6 => ?_)
    · exact absurd ⟨Int32.not_lt.mp c1, (i_lt2 a).mp c6⟩ h
    · refine J_C S_X9_restore rfl ?_
      refine J_retI S_X9_restore rfl ?_
      exact ⟨rfl, rfl⟩
theorem X9_restore_ill {q : Nat} (hq : q < 2) (ht : I (4 + 17) q = 0) : mj_R D_X9_restore [.inr (some 0), .inl (nI q)] (mj_w I) (mj_ex (some (.inl (-100000002))) I) := by
  have m0 := s_0
  have m4 := mj_S4.1
  have hi := C_X5_isTaken (I := I) mj_S4 hq
  rw [if_pos ht] at hi
  refine mj_enter (by decide +kernel) (Nat.le_of_ble_eq_true rfl) ?_
  refine J_ild S_X9_restore rfl rfl ?_
  refine J_if S_X9_restore rfl (fun c1 => False.elim (nI_pos (by omega) c1)) (fun c1 => ?_)
  refine J_ild S_X9_restore rfl rfl ?_
  refine J_C S_X9_restore rfl ?_
  refine J_cmp S_X9_restore rfl (fun c6 => ?_) (fun c6 => False.elim (c6 (nI_lt (b := 2) hq (by decide))))
  refine J_ald S_X9_restore rfl rfl ?_
  refine J_getR S_X9_restore rfl (o' := 4) (by assumption) (by omega) rfl ?_
  refine J_ild S_X9_restore rfl rfl ?_
  refine J_CVx S_X9_restore rfl rfl (by assumption) (by omega) (by simp) (hi) rfl ?_
  refine J_if S_X9_restore rfl (fun c20 => False.elim (c20 rfl)) (fun c20 => ?_)
  refine J_C S_X9_restore rfl ?_
  refine J_retI S_X9_restore rfl ?_
  exact ⟨rfl, rfl⟩
theorem RS_res {I1 I2 : mj_I} {w : mv} {q : Nat} (hS : RS I1 4 w) (hv : IV (sl w q)) (hz : ZB (sl w q)) (g1 : RB I2 5 (sl w q)) (g2 : Fr 5 I1 I2) : RS I2 4 (resV w q) := by
  have es : ∀ i, i < 687 → resV w q i = sl w q i := fun i hi => res_lo hi
  exact RS_bk hS (RB_ext hv.1.2 g1 es) (IV_ext hv es) (ZB_ext hz es) (fun i hi => res_o hi) g2
theorem X9_restore_ok {w p : mv} {o n L : Nat} {f : Nat → Int32} (hc : CR I w p o n L f) {q : Nat} (hq : q < 2) (ht : w (687 + 688 * q) = 1) : mj_R D_X9_restore [.inr (some 0), .inl (nI q)] (mj_w I) (mj_px (fun r I2 => r = some (.inl (w (688 + 688 * q))) ∧ ∃ I1, RC I I1 w p o n ∧ RS I2 4 (resV w q) ∧ ∀ o, (o < 4 ∨ 52 ≤ o) → I2 o = I1 o)) := by
  have m0 := s_0
  have m4 := mj_S4.1
  have m5 := mj_B5.1
  have m6 : mj_sh 6 = (2, 3) := mj_B5.2.1
  have m52 := s_52
  have hrec := Z_rec hc
  have e21 : ∀ I1, RC I I1 w p o n → I1 (4 + 17) q = 1 := fun I1 hr => by rw [((RC_R hc hr).2.2.2 q hq).1, ht]
  have hi := C_X5_isTaken (I := I) mj_S4 hq
  rw [if_neg (by rw [(hc.1.2.2.2 q hq).1, ht]; decide)] at hi
  have hk := fun (I1 : mj_I) (hr : RC I I1 w p o n) => C_X5_bringBack (I := I1) hq (e21 I1 hr) (((RC_R hc hr).2.2.2 q hq).2.2 ht).1 (((RC_R hc hr).2.2.2 q hq).2.2 ht).2.1
  refine mj_enter (by decide +kernel) (Nat.le_of_ble_eq_true rfl) ?_
  refine J_ild S_X9_restore rfl rfl ?_
  refine J_if S_X9_restore rfl (fun c1 => False.elim (nI_pos (by omega) c1)) (fun c1 => ?_)
  refine J_ild S_X9_restore rfl rfl ?_
  refine J_C S_X9_restore rfl ?_
  refine J_cmp S_X9_restore rfl (fun c6 => ?_) (fun c6 => False.elim (c6 (nI_lt (b := 2) hq (by decide))))
  refine J_ald S_X9_restore rfl rfl ?_
  refine J_getR S_X9_restore rfl (o' := 4) (by assumption) (by omega) rfl ?_
  refine J_ild S_X9_restore rfl rfl ?_
  refine J_CVx S_X9_restore rfl rfl (by assumption) (by omega) (by simp) (hi) rfl ?_
  refine J_if S_X9_restore rfl (fun c20 => ?_) (fun c20 => False.elim (absurd c20 (by decide)))
  refine J_ald S_X9_restore rfl rfl ?_
  refine J_getR S_X9_restore rfl (o' := 52) (by assumption) (by omega) rfl ?_
  refine J_ald S_X9_restore rfl rfl ?_
  refine J_getR S_X9_restore rfl (o' := 4) (by assumption) (by omega) rfl ?_
  refine J_CV S_X9_restore rfl rfl (by assumption) (by omega) (by simp) (hrec) ?_
  rintro _ _ ⟨I1, rfl, rfl, hr⟩
  refine J_ald S_X9_restore rfl rfl ?_
  refine J_getR S_X9_restore rfl (o' := 4) (by assumption) (by omega) rfl ?_
  refine J_ild S_X9_restore rfl rfl ?_
  refine J_CV S_X9_restore rfl rfl (by assumption) (by omega) (by simp) (hk I1 hr) ?_
  rintro _ _ ⟨I2, rfl, rfl, g1, g2⟩
  refine J_ald S_X9_restore rfl rfl ?_
  refine J_getR S_X9_restore rfl (o' := 4) (by assumption) (by omega) rfl ?_
  refine J_getR S_X9_restore rfl (o' := 5) (by assumption) (by omega) rfl ?_
  refine J_getR S_X9_restore rfl (o' := 6) (by assumption) (by omega) rfl ?_
  refine J_getI S_X9_restore rfl (by assumption) (by omega) ?_
  refine J_retI S_X9_restore rfl ?_
  have hS := RC_R hc hr
  refine ⟨I2, rfl, ?_, I1, hr, RS_res hS ((hS.2.2.2 q hq).2.2 ht).2.1 ((hS.2.2.2 q hq).2.2 ht).2.2 g1 g2, fun o ho => g2 o (by omega)⟩
  rw [show I2 6 2 = sl w q 0 from g1.1]
  rfl
theorem X10_restore_no {a : Int32} (h : ¬ (0 ≤ a ∧ a ≤ 1)) : mj_R D_X10_restore [.inr (some 313), .inl a] (mj_w I) (mj_ex (some (.inl (-100000001))) I) := by
  refine mj_enter (by decide +kernel) (Nat.le_of_ble_eq_true rfl) ?_
  refine J_ild S_X10_restore rfl rfl ?_
  refine J_C S_X10_restore rfl ?_
  refine J_C S_X10_restore rfl ?_
  refine J_CSx S_X10_restore rfl rfl (by simp) (in_f h) rfl ?_
  refine J_if S_X10_restore rfl (fun c6 => False.elim (c6 rfl)) (fun c6 => ?_)
  refine J_C S_X10_restore rfl ?_
  refine J_retI S_X10_restore rfl ?_
  exact ⟨rfl, rfl⟩
theorem X10_restore_ill {q : Nat} (hq : q < 2) (ht : I 314 (687 + 688 * q) = 0) : mj_R D_X10_restore [.inr (some 313), .inl (nI q)] (mj_w I) (mj_ex (some (.inl (-100000002))) I) := by
  have m0 := s_313
  have m1 := s_314
  have hin := in_t (I := I) (x := nI q) (lo := 0) (hi := 1) ⟨nI_pos' (by omega), nI_le (b := 1) (by omega) (by decide)⟩
  refine mj_enter (by decide +kernel) (Nat.le_of_ble_eq_true rfl) ?_
  refine J_ild S_X10_restore rfl rfl ?_
  refine J_C S_X10_restore rfl ?_
  refine J_C S_X10_restore rfl ?_
  refine J_CSx S_X10_restore rfl rfl (by simp) (hin) rfl ?_
  refine J_if S_X10_restore rfl (fun c6 => ?_) (fun c6 => False.elim (absurd c6 (by decide)))
  refine J_ald S_X10_restore rfl rfl ?_
  refine J_getR S_X10_restore rfl (o' := 314) (by assumption) (by omega) rfl ?_
  refine J_ild S_X10_restore rfl rfl ?_
  refine J_CSx S_X10_restore rfl rfl (by simp) (C_X10_slotAt) rfl ?_
  refine J_iald S_X10_restore rfl (by assumption) (by omega) (j := 687 + 688 * q) rfl (by omega) (by decide) ?_
  refine J_if S_X10_restore rfl (fun c21 => False.elim (c21 ht)) (fun c21 => ?_)
  refine J_C S_X10_restore rfl ?_
  refine J_retI S_X10_restore rfl ?_
  exact ⟨rfl, rfl⟩
theorem P_restore (h : Rl I) (a : Int32) : PRI D_X9_restore D_X10_restore [.inl a] I := by
  have hRl := h
  obtain ⟨o, n, L, hc, h2, h4⟩ := h
  have m0 := s_0
  have m1 := s_1
  have m2 := s_2
  have m4 := mj_S4.1
  have m5 := mj_B5.1
  have m6 : mj_sh 6 = (2, 3) := mj_B5.2.1
  have m52 := s_52
  have m294 := s_294
  have hR : RB I 5 (I 314) := hc.1.1
  have hI : IV (I 314) := hc.1.2.1
  have hZ : ZB (I 314) := hc.1.2.2.1
  have hn : n ≤ 5 := hc.2.1.2.2.2.1
  have hle : tn (I 314 0) ≤ 200 := hI.1.2
  by_cases hno : 0 ≤ a ∧ a ≤ 1
  · obtain ⟨q, hq, rfl⟩ := i_rng (n := 1) (by decide) hno.1 hno.2
    have hq2 : q < 2 := by omega
    obtain ⟨x1, x2, x3⟩ := hc.1.2.2.2 q hq2
    rcases x2 with ht | ht
    · exact PR_no (x := -100000002) hRl (X9_restore_ill hq2 (x1.trans ht)) (fun I1 hu => X10_restore_ill hq2 (by rw [hu 314 (by decide)]; exact ht))
    · refine PR_act (x := I 314 (688 + 688 * q)) (n := n) (w' := resV (I 314) q) (w'' := resV (I 314) q) h4 (R_imp (X9_restore_ok hc hq2 ht) ?_) (fun I1 hu => ?_) (fun _ _ => rfl)
      · rintro r I2 ⟨g0, I1, hr, g1, g2⟩
        have g := RC_S hc hr g1 g2
        exact ⟨g0, g.2, _, g.1⟩
      · have e := hu 314 (by decide)
        have g := C_X10_restore (I := I1) (n := n) (q := q) (by rw [e]; exact hI) (by rw [hu 313 (by decide)]; exact h2) hn hq2 (by rw [e]; exact ht)
        rw [e] at g
        exact g
  · exact PR_no (x := -100000001) hRl (X9_restore_no hno) (fun I1 _ => X10_restore_no hno)
/-! undo -/
theorem X9_undo_ill (h : I 52 2 = 0) : mj_R D_X9_undo [.inr (some 0)] (mj_w I) (mj_ex (some (.inl (-100000002))) I) := by
  have m0 := s_0
  have m52 := s_52
  refine mj_enter (by decide +kernel) (Nat.le_of_ble_eq_true rfl) ?_
  refine J_ald S_X9_undo rfl rfl ?_
  refine J_getR S_X9_undo rfl (o' := 52) (by assumption) (by omega) rfl ?_
  refine J_getI S_X9_undo rfl (by assumption) (by omega) ?_
  refine J_if S_X9_undo rfl (fun c7 => False.elim (c7 h)) (fun c7 => ?_)
  refine J_C S_X9_undo rfl ?_
  refine J_retI S_X9_undo rfl ?_
  exact ⟨rfl, rfl⟩
theorem X9_undo_ok {p : mv} {o n : Nat} (h : RH I o (n + 1) p) : mj_R D_X9_undo [.inr (some 0)] (mj_w I) (mj_px (fun r I' => r = some (.inl (nI n)) ∧ (∀ q, (q < 4 ∨ 294 ≤ q) → I' q = I q) ∧ RS I' 4 (fun j => p (2063 * n + j)) ∧ RH I' o n p)) := by
  have m0 := s_0
  have m52 := s_52
  have hr := C_X1_removeLatestInto h
  have n5 : n + 1 ≤ 5 := h.2.2.2.1
  refine mj_enter (by decide +kernel) (Nat.le_of_ble_eq_true rfl) ?_
  refine J_ald S_X9_undo rfl rfl ?_
  refine J_getR S_X9_undo rfl (o' := 52) (by assumption) (by omega) rfl ?_
  refine J_getI S_X9_undo rfl (by assumption) (by omega) ?_
  rw [h.2.1]
  refine J_if S_X9_undo rfl (fun c7 => ?_) (fun c7 => False.elim (nI_ne0 (by omega) (by omega) c7))
  refine J_ald S_X9_undo rfl rfl ?_
  refine J_getR S_X9_undo rfl (o' := 52) (by assumption) (by omega) rfl ?_
  refine J_ald S_X9_undo rfl rfl ?_
  refine J_getR S_X9_undo rfl (o' := 4) (by assumption) (by omega) rfl ?_
  refine J_CV S_X9_undo rfl rfl (by assumption) (by omega) (by simp) (hr) ?_
  rintro _ _ ⟨I2, rfl, rfl, g1, g2, g3⟩
  refine J_ald S_X9_undo rfl rfl ?_
  refine J_getR S_X9_undo rfl (o' := 52) (by assumption) (by omega) rfl ?_
  refine J_getI S_X9_undo rfl (by assumption) (by omega) ?_
  refine J_retI S_X9_undo rfl ?_
  exact ⟨I2, rfl, by rw [g3.2.1], g1, g2, g3⟩
theorem X10_undo_ill (h : I 313 2 = 0) : mj_R D_X10_undo [.inr (some 313)] (mj_w I) (mj_ex (some (.inl (-100000002))) I) := by
  have m0 := s_313
  refine mj_enter (by decide +kernel) (Nat.le_of_ble_eq_true rfl) ?_
  refine J_ald S_X10_undo rfl rfl ?_
  refine J_getI S_X10_undo rfl (by assumption) (by omega) ?_
  refine J_if S_X10_undo rfl (fun c4 => False.elim (c4 h)) (fun c4 => ?_)
  refine J_C S_X10_undo rfl ?_
  refine J_retI S_X10_undo rfl ?_
  exact ⟨rfl, rfl⟩
theorem P_undo (h : Rl I) : PRI D_X9_undo D_X10_undo [] I := by
  have hRl := h
  obtain ⟨o, n, L, hc, h2, h4⟩ := h
  have m0 := s_0
  have m1 := s_1
  have m2 := s_2
  have m4 := mj_S4.1
  have m5 := mj_B5.1
  have m6 : mj_sh 6 = (2, 3) := mj_B5.2.1
  have m52 := s_52
  have m294 := s_294
  have hR : RB I 5 (I 314) := hc.1.1
  have hI : IV (I 314) := hc.1.2.1
  have hZ : ZB (I 314) := hc.1.2.2.1
  have hn : n ≤ 5 := hc.2.1.2.2.2.1
  have hle : tn (I 314 0) ≤ 200 := hI.1.2
  cases n with
  | zero => exact PR_no (x := -100000002) hRl (X9_undo_ill (hc.2.1.2.1.trans nI_0)) (fun I1 hu => X10_undo_ill (by rw [hu 313 (by decide), h2]; exact nI_0))
  | succ n =>
    refine ⟨nI n, fun I1 => (∀ q, (q < 4 ∨ 294 ≤ q) → I1 q = I q) ∧ RS I1 4 (fun j => I 315 (2063 * n + j)) ∧ RH I1 o n (I 315), X9_undo_ok hc.2.1, fun I1 hq => ?_⟩
    obtain ⟨q1, q2, q3⟩ := hq
    have g := C_X10_undo (I := I1) (n := n) (by rw [q1 313 (by omega)]; exact h2) (by omega)
    refine R_imp g ?_
    rintro r I2 ⟨g1, g2, g3, g4, g5⟩
    refine ⟨g1, o, n, L, ⟨?_, ?_, hc.2.2.1, ?_, ?_⟩, g4, ?_⟩
    · refine RS_ext (RS_fr q2 (fun q _ h => g2 q (by omega) (by omega))) (fun j hj => ?_)
      rw [g5 j hj, q1 315 (by omega)]
    · rw [g2 315 (by decide) (by decide), q1 315 (by omega)]
      exact RH_fr q3 (fun q _ h => g2 q (by omega) (by omega))
    · rw [g2 2 (by decide) (by decide), q1 2 (by omega)]; exact hc.2.2.2.1
    · rw [g2 3 (by decide) (by decide), q1 3 (by omega), g2 316 (by decide) (by decide), q1 316 (by omega)]; exact hc.2.2.2.2
    · rw [g3 4 (by decide), q1 313 (by omega)]; exact h4
/-! the text -/
theorem X9_append_no {a : Int32} (h : ¬ (1 ≤ a ∧ a ≤ 255)) : mj_R D_X9_append [.inr (some 0), .inl a] (mj_w I) (mj_ex (some (.inl (-100000001))) I) := by
  refine mj_enter (by decide +kernel) (Nat.le_of_ble_eq_true rfl) ?_
  refine J_ild S_X9_append rfl rfl ?_
  refine J_C S_X9_append rfl ?_
  refine J_cmp S_X9_append rfl (fun c2 => ?_) (fun c2 => ?_)
  · refine J_C S_X9_append rfl ?_
    refine J_retI S_X9_append rfl ?_
    exact ⟨rfl, rfl⟩
  · refine J_ild S_X9_append rfl rfl ?_
    refine J_C S_X9_append rfl ?_
    refine J_cmp S_X9_append rfl (fun c9 => ?_) (fun c9 => ?_)
    · exact absurd ⟨Int32.not_lt.mp c2, c9⟩ h
    · refine J_C S_X9_append rfl ?_
      refine J_retI S_X9_append rfl ?_
      exact ⟨rfl, rfl⟩
theorem X9_append_full {a : Int32} (h : 1 ≤ a ∧ a ≤ 255) (hf : I 2 1 = nI 40) : mj_R D_X9_append [.inr (some 0), .inl a] (mj_w I) (mj_ex (some (.inl (-100000003))) I) := by
  have m0 := s_0
  have m1 := s_1
  have m2 := s_2
  have hfl := C_X7_isFull (I := I) (n := 40) (by decide) hf
  refine mj_enter (by decide +kernel) (Nat.le_of_ble_eq_true rfl) ?_
  refine J_ild S_X9_append rfl rfl ?_
  refine J_C S_X9_append rfl ?_
  refine J_cmp S_X9_append rfl (fun c2 => False.elim (Int32.not_lt.mpr h.1 c2)) (fun c2 => ?_)
  refine J_ild S_X9_append rfl rfl ?_
  refine J_C S_X9_append rfl ?_
  refine J_cmp S_X9_append rfl (fun c9 => ?_) (fun c9 => False.elim (c9 h.2))
  refine J_ald S_X9_append rfl rfl ?_
  refine J_getR S_X9_append rfl (o' := 1) (by assumption) (by omega) rfl ?_
  refine J_getR S_X9_append rfl (o' := 2) (by assumption) (by omega) rfl ?_
  refine J_CVx S_X9_append rfl rfl (by assumption) (by omega) (by simp) (hfl) rfl ?_
  refine J_if S_X9_append rfl (fun c25 => False.elim (absurd c25 (by decide))) (fun c25 => ?_)
  refine J_C S_X9_append rfl ?_
  refine J_retI S_X9_append rfl ?_
  exact ⟨rfl, rfl⟩
theorem X9_append_ok {a : Int32} {L : Nat} (h : 1 ≤ a ∧ a ≤ 255) (hL : L < 40) (hf : I 2 1 = nI L) : mj_R D_X9_append [.inr (some 0), .inl a] (mj_w I) (mj_ex (some (.inl (nI (L + 1)))) (mj_up (mj_up I 3 L a) 2 1 (nI (L + 1)))) := by
  have m0 := s_0
  have m1 := s_1
  have m2 := s_2
  have hfl := C_X7_isFull (I := I) (n := L) (by omega) hf
  rw [if_pos hL] at hfl
  refine mj_enter (by decide +kernel) (Nat.le_of_ble_eq_true rfl) ?_
  refine J_ild S_X9_append rfl rfl ?_
  refine J_C S_X9_append rfl ?_
  refine J_cmp S_X9_append rfl (fun c2 => False.elim (Int32.not_lt.mpr h.1 c2)) (fun c2 => ?_)
  refine J_ild S_X9_append rfl rfl ?_
  refine J_C S_X9_append rfl ?_
  refine J_cmp S_X9_append rfl (fun c9 => ?_) (fun c9 => False.elim (c9 h.2))
  refine J_ald S_X9_append rfl rfl ?_
  refine J_getR S_X9_append rfl (o' := 1) (by assumption) (by omega) rfl ?_
  refine J_getR S_X9_append rfl (o' := 2) (by assumption) (by omega) rfl ?_
  refine J_CVx S_X9_append rfl rfl (by assumption) (by omega) (by simp) (hfl) rfl ?_
  refine J_if S_X9_append rfl (fun c25 => ?_) (fun c25 => False.elim (c25 rfl))
  refine J_ald S_X9_append rfl rfl ?_
  refine J_getR S_X9_append rfl (o' := 1) (by assumption) (by omega) rfl ?_
  refine J_getR S_X9_append rfl (o' := 2) (by assumption) (by omega) rfl ?_
  refine J_ild S_X9_append rfl rfl ?_
  refine J_CVx S_X9_append rfl rfl (by assumption) (by omega) (by simp) (C_X7_add hL hf) rfl ?_
  refine J_ald S_X9_append rfl rfl ?_
  refine J_getR S_X9_append rfl (o' := 1) (by assumption) (by omega) rfl ?_
  refine J_getR S_X9_append rfl (o' := 2) (by assumption) (by omega) rfl ?_
  refine J_getI S_X9_append rfl (by assumption) (by omega) ?_
  rw [mj_up_eq, up_s]
  refine J_retI S_X9_append rfl ?_
  exact ⟨rfl, rfl⟩
theorem X10_append_no {a : Int32} (h : ¬ (1 ≤ a ∧ a ≤ 255)) : mj_R D_X10_append [.inr (some 313), .inl a] (mj_w I) (mj_ex (some (.inl (-100000001))) I) := by
  refine mj_enter (by decide +kernel) (Nat.le_of_ble_eq_true rfl) ?_
  refine J_ild S_X10_append rfl rfl ?_
  refine J_C S_X10_append rfl ?_
  refine J_C S_X10_append rfl ?_
  refine J_CSx S_X10_append rfl rfl (by simp) (in_f h) rfl ?_
  refine J_if S_X10_append rfl (fun c8 => False.elim (c8 rfl)) (fun c8 => ?_)
  refine J_C S_X10_append rfl ?_
  refine J_retI S_X10_append rfl ?_
  exact ⟨rfl, rfl⟩
theorem X10_append_full {a : Int32} (h : 1 ≤ a ∧ a ≤ 255) (hf : I 313 4 = nI 40) : mj_R D_X10_append [.inr (some 313), .inl a] (mj_w I) (mj_ex (some (.inl (-100000003))) I) := by
  have m0 := s_313
  refine mj_enter (by decide +kernel) (Nat.le_of_ble_eq_true rfl) ?_
  refine J_ild S_X10_append rfl rfl ?_
  refine J_C S_X10_append rfl ?_
  refine J_C S_X10_append rfl ?_
  refine J_CSx S_X10_append rfl rfl (by simp) (in_t h) rfl ?_
  refine J_if S_X10_append rfl (fun c8 => ?_) (fun c8 => False.elim (absurd c8 (by decide)))
  refine J_ald S_X10_append rfl rfl ?_
  refine J_getI S_X10_append rfl (by assumption) (by omega) ?_
  refine J_C S_X10_append rfl ?_
  rw [hf]
  refine J_cmp S_X10_append rfl (fun c20 => False.elim (c20 rfl)) (fun c20 => ?_)
  refine J_C S_X10_append rfl ?_
  refine J_retI S_X10_append rfl ?_
  exact ⟨rfl, rfl⟩
theorem X10_append_ok {a : Int32} {L : Nat} (h : 1 ≤ a ∧ a ≤ 255) (hL : L < 40) (hf : I 313 4 = nI L) : mj_R D_X10_append [.inr (some 313), .inl a] (mj_w I) (mj_ex (some (.inl (nI (L + 1)))) (mj_up (mj_up I 316 L a) 313 4 (nI (L + 1)))) := by
  have m0 := s_313
  have m1 := s_316
  refine mj_enter (by decide +kernel) (Nat.le_of_ble_eq_true rfl) ?_
  refine J_ild S_X10_append rfl rfl ?_
  refine J_C S_X10_append rfl ?_
  refine J_C S_X10_append rfl ?_
  refine J_CSx S_X10_append rfl rfl (by simp) (in_t h) rfl ?_
  refine J_if S_X10_append rfl (fun c8 => ?_) (fun c8 => False.elim (absurd c8 (by decide)))
  refine J_ald S_X10_append rfl rfl ?_
  refine J_getI S_X10_append rfl (by assumption) (by omega) ?_
  refine J_C S_X10_append rfl ?_
  rw [hf]
  refine J_cmp S_X10_append rfl (fun c20 => ?_) (fun c20 => False.elim ((show L ≠ 40 by omega) ((nI_eq (b := 40) (by omega) (by decide)).mp c20)))
  refine J_ald S_X10_append rfl rfl ?_
  refine J_getR S_X10_append rfl (o' := 316) (by assumption) (by omega) rfl ?_
  refine J_ald S_X10_append rfl rfl ?_
  refine J_getI S_X10_append rfl (by assumption) (by omega) ?_
  refine J_ild S_X10_append rfl rfl ?_
  refine J_iast S_X10_append rfl (by assumption) (by omega) (j := L) hf hL (by decide) ?_
  refine J_ald S_X10_append rfl rfl ?_
  refine J_dup S_X10_append rfl ?_
  refine J_getI S_X10_append rfl (by assumption) (by omega) ?_
  refine J_C S_X10_append rfl ?_
  refine J_bin S_X10_append rfl ?_
  rw [mj_up_ne (show (313 : Nat) ≠ 316 by decide), hf, ← nI_succ]
  refine J_putI S_X10_append rfl (by assumption) (by omega) ?_
  refine J_ald S_X10_append rfl rfl ?_
  refine J_getI S_X10_append rfl (by assumption) (by omega) ?_
  rw [mj_up_eq, up_s]
  refine J_retI S_X10_append rfl ?_
  exact ⟨rfl, rfl⟩
theorem P_append (h : Rl I) (a : Int32) : PRI D_X9_append D_X10_append [.inl a] I := by
  have hRl := h
  obtain ⟨o, n, L, hc, h2, h4⟩ := h
  have m0 := s_0
  have m1 := s_1
  have m2 := s_2
  have m4 := mj_S4.1
  have m5 := mj_B5.1
  have m6 : mj_sh 6 = (2, 3) := mj_B5.2.1
  have m52 := s_52
  have m294 := s_294
  have hR : RB I 5 (I 314) := hc.1.1
  have hI : IV (I 314) := hc.1.2.1
  have hZ : ZB (I 314) := hc.1.2.2.1
  have hn : n ≤ 5 := hc.2.1.2.2.2.1
  have hle : tn (I 314 0) ≤ 200 := hI.1.2
  obtain ⟨c1, c2, cL, c3, c4⟩ := hc
  by_cases hno : 1 ≤ a ∧ a ≤ 255
  · by_cases hL : L < 40
    · refine ⟨nI (L + 1), fun I1 => I1 = mj_up (mj_up I 3 L a) 2 1 (nI (L + 1)), R_ex (X9_append_ok hno hL c3) ⟨rfl, rfl⟩, fun I1 hq => ?_⟩
      subst hq
      refine R_ex (X10_append_ok hno hL (by rw [mj_up_ne (by decide), mj_up_ne (by decide)]; exact h4)) ⟨rfl, o, n, L + 1, ⟨?_, ?_, by omega, ?_, ?_⟩, ?_, ?_⟩
      · simp only [mj_up_ne (show (314 : Nat) ≠ 313 by decide), mj_up_ne (show (314 : Nat) ≠ 316 by decide), mj_up_ne (show (314 : Nat) ≠ 2 by decide), mj_up_ne (show (314 : Nat) ≠ 3 by decide)]
        exact RS_fr c1 (fun q g1 g2 => by rw [mj_up_ne (by omega), mj_up_ne (by omega), mj_up_ne (by omega), mj_up_ne (by omega)])
      · simp only [mj_up_ne (show (315 : Nat) ≠ 313 by decide), mj_up_ne (show (315 : Nat) ≠ 316 by decide), mj_up_ne (show (315 : Nat) ≠ 2 by decide), mj_up_ne (show (315 : Nat) ≠ 3 by decide)]
        exact RH_fr c2 (fun q g1 g2 => by rw [mj_up_ne (by omega), mj_up_ne (by omega), mj_up_ne (by omega), mj_up_ne (by omega)])
      · rw [mj_up_ne (by decide), mj_up_ne (by decide), mj_up_eq, up_s]
      · rw [mj_up_ne (by decide), mj_up_ne (by decide), mj_up_ne (by decide), mj_up_eq, mj_up_ne (by decide), mj_up_eq, mj_up_ne (by decide), mj_up_ne (by decide), c4]
      · rw [mj_up_eq, up_n (by decide), mj_up_ne (by decide), mj_up_ne (by decide), mj_up_ne (by decide)]; exact h2
      · rw [mj_up_eq, up_s]
    · obtain rfl : L = 40 := by omega
      exact PR_no (x := -100000003) hRl (X9_append_full hno c3) (fun I1 hu => X10_append_full hno (by rw [hu 313 (by decide)]; exact h4))
  · exact PR_no (x := -100000001) hRl (X9_append_no hno) (fun I1 _ => X10_append_no hno)
theorem X9_clearText_ok : mj_R D_X9_clearText [.inr (some 0)] (mj_w I) (mj_ex (some (.inl (I 2 1))) (mj_up I 2 1 0)) := by
  have m0 := s_0
  have m1 := s_1
  have m2 := s_2
  refine mj_enter (by decide +kernel) (Nat.le_of_ble_eq_true rfl) ?_
  refine J_ald S_X9_clearText rfl rfl ?_
  refine J_getR S_X9_clearText rfl (o' := 1) (by assumption) (by omega) rfl ?_
  refine J_getR S_X9_clearText rfl (o' := 2) (by assumption) (by omega) rfl ?_
  refine J_getI S_X9_clearText rfl (by assumption) (by omega) ?_
  refine J_ist S_X9_clearText rfl rfl ?_
  refine J_ald S_X9_clearText rfl rfl ?_
  refine J_getR S_X9_clearText rfl (o' := 1) (by assumption) (by omega) rfl ?_
  refine J_getR S_X9_clearText rfl (o' := 2) (by assumption) (by omega) rfl ?_
  refine J_CVx S_X9_clearText rfl rfl (by assumption) (by omega) (by simp) (C_X7_empty) rfl ?_
  refine J_ild S_X9_clearText rfl rfl ?_
  refine J_retI S_X9_clearText rfl ?_
  exact ⟨rfl, rfl⟩
theorem X10_clearText_ok : mj_R D_X10_clearText [.inr (some 313)] (mj_w I) (mj_ex (some (.inl (I 313 4))) (mj_up I 313 4 0)) := by
  have m0 := s_313
  refine mj_enter (by decide +kernel) (Nat.le_of_ble_eq_true rfl) ?_
  refine J_ald S_X10_clearText rfl rfl ?_
  refine J_getI S_X10_clearText rfl (by assumption) (by omega) ?_
  refine J_ist S_X10_clearText rfl rfl ?_
  refine J_ald S_X10_clearText rfl rfl ?_
  refine J_C S_X10_clearText rfl ?_
  refine J_putI S_X10_clearText rfl (by assumption) (by omega) ?_
  refine J_ild S_X10_clearText rfl rfl ?_
  refine J_retI S_X10_clearText rfl ?_
  exact ⟨rfl, rfl⟩
theorem P_clearText (h : Rl I) : PRI D_X9_clearText D_X10_clearText [] I := by
  have hRl := h
  obtain ⟨o, n, L, hc, h2, h4⟩ := h
  have m0 := s_0
  have m1 := s_1
  have m2 := s_2
  have m4 := mj_S4.1
  have m5 := mj_B5.1
  have m6 : mj_sh 6 = (2, 3) := mj_B5.2.1
  have m52 := s_52
  have m294 := s_294
  have hR : RB I 5 (I 314) := hc.1.1
  have hI : IV (I 314) := hc.1.2.1
  have hZ : ZB (I 314) := hc.1.2.2.1
  have hn : n ≤ 5 := hc.2.1.2.2.2.1
  have hle : tn (I 314 0) ≤ 200 := hI.1.2
  obtain ⟨c1, c2, cL, c3, c4⟩ := hc
  refine ⟨nI L, fun I1 => I1 = mj_up I 2 1 0, R_ex X9_clearText_ok ⟨by rw [c3], rfl⟩, fun I1 hq => ?_⟩
  subst hq
  refine R_ex X10_clearText_ok ⟨by rw [mj_up_ne (by decide), h4], o, n, 0, ⟨?_, ?_, by omega, ?_, ?_⟩, ?_, ?_⟩
  · simp only [mj_up_ne (show (314 : Nat) ≠ 313 by decide), mj_up_ne (show (314 : Nat) ≠ 2 by decide)]
    exact RS_fr c1 (fun q g1 g2 => by rw [mj_up_ne (by omega), mj_up_ne (by omega)])
  · simp only [mj_up_ne (show (315 : Nat) ≠ 313 by decide), mj_up_ne (show (315 : Nat) ≠ 2 by decide)]
    exact RH_fr c2 (fun q g1 g2 => by rw [mj_up_ne (by omega), mj_up_ne (by omega)])
  · rw [mj_up_ne (by decide), mj_up_eq, up_s]; exact nI_0.symm
  · rw [mj_up_ne (by decide), mj_up_ne (by decide), mj_up_ne (by decide), mj_up_ne (by decide)]; exact c4
  · rw [mj_up_eq, up_n (by decide), mj_up_ne (by decide)]; exact h2
  · rw [mj_up_eq, up_s]; exact nI_0.symm
end P5
