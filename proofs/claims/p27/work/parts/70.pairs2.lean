def sOK (j : Nat) (x : Int32) : Bool := decide (nI (loS j) ≤ x) && decide (x ≤ nI (hiS j))
theorem xc_e : ∀ j, j < 6 → mj_xc 0 j = nI (loS j) ∧ mj_xc 1 j = nI (hiS j) := by decide +kernel
theorem mj_ne6 {a b : Int32} (h : ∀ j, j < 6 → a ≠ nI j) (e : a = b) (hb : b = nI 0 ∨ b = nI 1 ∨ b = nI 2 ∨ b = nI 3 ∨ b = nI 4 ∨ b = nI 5 := by decide) : False := by
  rcases hb with g | g | g | g | g | g
  · exact h 0 (by decide) (e.trans g)
  · exact h 1 (by decide) (e.trans g)
  · exact h 2 (by decide) (e.trans g)
  · exact h 3 (by decide) (e.trans g)
  · exact h 4 (by decide) (e.trans g)
  · exact h 5 (by decide) (e.trans g)
section P2
variable {I : mj_I}
theorem C_X9_isSet {j : Nat} (hj : j < 6) {x : Int32} : mj_R D_X9_isSetting [.inl (nI j), .inl x] (mj_w I) (mj_ex (some (.inl (bi (sOK j x)))) I) := by
  obtain ⟨e1, e2⟩ := xc_e j hj
  refine mj_enter (by decide +kernel) (Nat.le_of_ble_eq_true rfl) ?_
  unfold sOK
  by_cases h1 : nI (loS j) ≤ x
  · by_cases h2 : x ≤ nI (hiS j)
    · rw [decide_eq_true h1, decide_eq_true h2]
      refine J_ild S_X9_isSetting rfl rfl ?_
      refine J_if S_X9_isSetting rfl (fun c1 => False.elim (nI_pos (by omega) c1)) (fun c1 => ?_)
      refine J_ild S_X9_isSetting rfl rfl ?_
      refine J_gets S_X9_isSetting rfl ?_
      refine J_xlen S_X9_isSetting rfl ?_
      refine J_cmp S_X9_isSetting rfl (fun c9 => False.elim (nI_ge hj (by omega) c9)) (fun c9 => ?_)
      refine J_ild S_X9_isSetting rfl rfl ?_
      refine J_gets S_X9_isSetting rfl ?_
      refine J_xlen S_X9_isSetting rfl ?_
      refine J_cmp S_X9_isSetting rfl (fun c17 => False.elim (nI_ge hj (by omega) c17)) (fun c17 => ?_)
      refine J_ild S_X9_isSetting rfl rfl ?_
      refine J_gets S_X9_isSetting rfl ?_
      refine J_ild S_X9_isSetting rfl rfl ?_
      refine J_xald S_X9_isSetting rfl rfl (by omega) ?_
      rw [e1]
      refine J_cmp S_X9_isSetting rfl (fun c26 => False.elim (Int32.not_lt.mpr h1 c26)) (fun c26 => ?_)
      refine J_ild S_X9_isSetting rfl rfl ?_
      refine J_gets S_X9_isSetting rfl ?_
      refine J_ild S_X9_isSetting rfl rfl ?_
      refine J_xald S_X9_isSetting rfl rfl (by omega) ?_
      rw [e2]
      refine J_cmp S_X9_isSetting rfl (fun c35 => False.elim (Int32.not_lt.mpr h2 c35)) (fun c35 => ?_)
      refine J_C S_X9_isSetting rfl ?_
      refine J_goto S_X9_isSetting rfl ?_
      refine J_retZ S_X9_isSetting rfl (by decide) ?_
      exact ⟨rfl, rfl⟩
    · rw [decide_eq_true h1, decide_eq_false h2]
      refine J_ild S_X9_isSetting rfl rfl ?_
      refine J_if S_X9_isSetting rfl (fun c1 => False.elim (nI_pos (by omega) c1)) (fun c1 => ?_)
      refine J_ild S_X9_isSetting rfl rfl ?_
      refine J_gets S_X9_isSetting rfl ?_
      refine J_xlen S_X9_isSetting rfl ?_
      refine J_cmp S_X9_isSetting rfl (fun c9 => False.elim (nI_ge hj (by omega) c9)) (fun c9 => ?_)
      refine J_ild S_X9_isSetting rfl rfl ?_
      refine J_gets S_X9_isSetting rfl ?_
      refine J_xlen S_X9_isSetting rfl ?_
      refine J_cmp S_X9_isSetting rfl (fun c17 => False.elim (nI_ge hj (by omega) c17)) (fun c17 => ?_)
      refine J_ild S_X9_isSetting rfl rfl ?_
      refine J_gets S_X9_isSetting rfl ?_
      refine J_ild S_X9_isSetting rfl rfl ?_
      refine J_xald S_X9_isSetting rfl rfl (by omega) ?_
      rw [e1]
      refine J_cmp S_X9_isSetting rfl (fun c26 => False.elim (Int32.not_lt.mpr h1 c26)) (fun c26 => ?_)
      refine J_ild S_X9_isSetting rfl rfl ?_
      refine J_gets S_X9_isSetting rfl ?_
      refine J_ild S_X9_isSetting rfl rfl ?_
      refine J_xald S_X9_isSetting rfl rfl (by omega) ?_
      rw [e2]
      refine J_cmp S_X9_isSetting rfl (fun c35 => ?_) (fun c35 => False.elim (c35 (Int32.not_le.mp h2)))
      refine J_C S_X9_isSetting rfl ?_
      refine J_retZ S_X9_isSetting rfl (by decide) ?_
      exact ⟨rfl, rfl⟩
  · rw [decide_eq_false h1]
    refine J_ild S_X9_isSetting rfl rfl ?_
    refine J_if S_X9_isSetting rfl (fun c1 => False.elim (nI_pos (by omega) c1)) (fun c1 => ?_)
    refine J_ild S_X9_isSetting rfl rfl ?_
    refine J_gets S_X9_isSetting rfl ?_
    refine J_xlen S_X9_isSetting rfl ?_
    refine J_cmp S_X9_isSetting rfl (fun c9 => False.elim (nI_ge hj (by omega) c9)) (fun c9 => ?_)
    refine J_ild S_X9_isSetting rfl rfl ?_
    refine J_gets S_X9_isSetting rfl ?_
    refine J_xlen S_X9_isSetting rfl ?_
    refine J_cmp S_X9_isSetting rfl (fun c17 => False.elim (nI_ge hj (by omega) c17)) (fun c17 => ?_)
    refine J_ild S_X9_isSetting rfl rfl ?_
    refine J_gets S_X9_isSetting rfl ?_
    refine J_ild S_X9_isSetting rfl rfl ?_
    refine J_xald S_X9_isSetting rfl rfl (by omega) ?_
    rw [e1]
    refine J_cmp S_X9_isSetting rfl (fun c26 => ?_) (fun c26 => False.elim (c26 (Int32.not_le.mp h1)))
    refine J_C S_X9_isSetting rfl ?_
    refine J_retZ S_X9_isSetting rfl (by decide) ?_
    exact ⟨rfl, rfl⟩
theorem C_X9_isSet_o {a x : Int32} (h : a < 0 ∨ nI 6 ≤ a) : mj_R D_X9_isSetting [.inl a, .inl x] (mj_w I) (mj_ex (some (.inl 0)) I) := by
  refine mj_enter (by decide +kernel) (Nat.le_of_ble_eq_true rfl) ?_
  by_cases h0 : a < 0
  · refine J_ild S_X9_isSetting rfl rfl ?_
    refine J_if S_X9_isSetting rfl (fun c1 => ?_) (fun c1 => False.elim (c1 h0))
    refine J_C S_X9_isSetting rfl ?_
    refine J_retZ S_X9_isSetting rfl (by decide) ?_
    exact ⟨rfl, rfl⟩
  · have h6 : 6 ≤ a := h.resolve_left h0
    refine J_ild S_X9_isSetting rfl rfl ?_
    refine J_if S_X9_isSetting rfl (fun c1 => False.elim (h0 c1)) (fun c1 => ?_)
    refine J_ild S_X9_isSetting rfl rfl ?_
    refine J_gets S_X9_isSetting rfl ?_
    refine J_xlen S_X9_isSetting rfl ?_
    refine J_cmp S_X9_isSetting rfl (fun c9 => ?_) (fun c9 => False.elim (c9 h6))
    refine J_C S_X9_isSetting rfl ?_
    refine J_retZ S_X9_isSetting rfl (by decide) ?_
    exact ⟨rfl, rfl⟩
theorem X9_set_no {a x : Int32} (h : mj_R D_X9_isSetting [.inl a, .inl x] (mj_w I) (mj_ex (some (.inl 0)) I)) : mj_R D_X9_set [.inr (some 0), .inl a, .inl x] (mj_w I) (mj_ex (some (.inl (-100000001))) I) := by
  refine mj_enter (by decide +kernel) (Nat.le_of_ble_eq_true rfl) ?_
  refine J_ild S_X9_set rfl rfl ?_
  refine J_ild S_X9_set rfl rfl ?_
  refine J_CSx S_X9_set rfl rfl (by simp) (h) rfl ?_
  refine J_if S_X9_set rfl (fun c5 => False.elim (c5 rfl)) (fun c5 => ?_)
  refine J_C S_X9_set rfl ?_
  refine J_retI S_X9_set rfl ?_
  exact ⟨rfl, rfl⟩
theorem tk_ans {v : mv} (hI : IV v) : msk (fun q => tkB (tkV v q) q) 8 = msk (fun q => tkB (tkV v q) q) (tn (v 1)) := by
  refine msk_zero hI.2.1.2 (fun i h1 h2 => ?_)
  unfold tkB
  rw [ex_f (by rw [tkV_k (by decide) i (Nat.le_refl i)]; exact hI.2.2.2.2.2.2 i h1 h2)]
  rfl
theorem tk_vec {v : mv} (hI : IV v) : tkV v 8 = tkV v (tn (v 1)) := by
  have h := tkV_end hI (8 - tn (v 1)) (by have := hI.2.1.2; omega)
  rw [show tn (v 1) + (8 - tn (v 1)) = 8 by have := hI.2.1.2; omega] at h
  exact h
theorem tkE_h {v : mv} {i : Nat} (hi : 687 ≤ i) : tkE v i = v i := by
  unfold tkE
  rw [up_n (by omega), up_n (by omega), up_n (by omega)]
theorem X9_tick_ok {w p : mv} {o n L : Nat} {f : Nat → Int32} (hc : CR I w p o n L f) (ht : I 5 5 + I (5 + 5) 3 ≤ 9999) : mj_R D_X9_tick [.inr (some 0)] (mj_w I) (mj_px (fun r I2 => r = some (.inl (nI (msk (fun q => tkB (tkV w q) q) 8))) ∧ ∃ I1, RC I I1 w p o n ∧ RB I2 5 (tkE (tkV w 8)) ∧ Fr 5 I1 I2)) := by
  have m0 := s_0
  have m4 := mj_S4.1
  have m5 := mj_B5.1
  have m52 := s_52
  have hrec := Z_rec hc
  have hpt := fun (I1 : mj_I) (hr : RC I I1 w p o n) => C_X0_passTick (I := I1) mj_B5 (RC_R hc hr).1 hc.1.2.1
  refine mj_enter (by decide +kernel) (Nat.le_of_ble_eq_true rfl) ?_
  refine J_ald S_X9_tick rfl rfl ?_
  refine J_getR S_X9_tick rfl (o' := 4) (by assumption) (by omega) rfl ?_
  refine J_getR S_X9_tick rfl (o' := 5) (by assumption) (by omega) rfl ?_
  refine J_ast S_X9_tick rfl rfl ?_
  refine J_ald S_X9_tick rfl rfl ?_
  refine J_getI S_X9_tick rfl (by assumption) (by omega) ?_
  refine J_ald S_X9_tick rfl rfl ?_
  refine J_C S_X9_tick rfl ?_
  refine J_CVx S_X9_tick rfl rfl (by assumption) (by omega) (by simp) (C_X0_setting mj_B5 (by decide)) rfl ?_
  refine J_bin S_X9_tick rfl ?_
  refine J_C S_X9_tick rfl ?_
  refine J_cmp S_X9_tick rfl (fun c21 => ?_) (fun c21 => False.elim (c21 ht))
  refine J_ald S_X9_tick rfl rfl ?_
  refine J_getR S_X9_tick rfl (o' := 52) (by assumption) (by omega) rfl ?_
  refine J_ald S_X9_tick rfl rfl ?_
  refine J_getR S_X9_tick rfl (o' := 4) (by assumption) (by omega) rfl ?_
  refine J_CV S_X9_tick rfl rfl (by assumption) (by omega) (by simp) (hrec) ?_
  rintro _ _ ⟨I1, rfl, rfl, hr⟩
  refine J_ald S_X9_tick rfl rfl ?_
  refine J_CV S_X9_tick rfl rfl (by assumption) (by omega) (by simp) (hpt I1 hr) ?_
  rintro _ _ ⟨I2, rfl, rfl, g1, g2⟩
  refine J_retI S_X9_tick rfl ?_
  exact ⟨I2, rfl, rfl, I1, hr, g1, g2⟩
theorem X9_tick_full (ht : ¬ I 5 5 + I (5 + 5) 3 ≤ 9999) : mj_R D_X9_tick [.inr (some 0)] (mj_w I) (mj_ex (some (.inl (-100000003))) I) := by
  have m0 := s_0
  have m4 := mj_S4.1
  have m5 := mj_B5.1
  refine mj_enter (by decide +kernel) (Nat.le_of_ble_eq_true rfl) ?_
  refine J_ald S_X9_tick rfl rfl ?_
  refine J_getR S_X9_tick rfl (o' := 4) (by assumption) (by omega) rfl ?_
  refine J_getR S_X9_tick rfl (o' := 5) (by assumption) (by omega) rfl ?_
  refine J_ast S_X9_tick rfl rfl ?_
  refine J_ald S_X9_tick rfl rfl ?_
  refine J_getI S_X9_tick rfl (by assumption) (by omega) ?_
  refine J_ald S_X9_tick rfl rfl ?_
  refine J_C S_X9_tick rfl ?_
  refine J_CVx S_X9_tick rfl rfl (by assumption) (by omega) (by simp) (C_X0_setting mj_B5 (by decide)) rfl ?_
  refine J_bin S_X9_tick rfl ?_
  refine J_C S_X9_tick rfl ?_
  refine J_cmp S_X9_tick rfl (fun c21 => False.elim (ht c21)) (fun c21 => ?_)
  refine J_C S_X9_tick rfl ?_
  refine J_retI S_X9_tick rfl ?_
  exact ⟨rfl, rfl⟩
theorem tk_w {v : mv} (hI : IV v) (hs : tn (v 2) + tn (v 12) ≤ 9999) : IV (tkE (tkV v 8)) := by
  have n2 : tkV v 8 2 = v 2 := tkV_o (by decide) (fun k => by omega) 8
  have n12 : tkV v 8 12 = v 12 := tkV_o (by decide) (fun k => by omega) 8
  have e12 : rg (v 12) 100 := (hI.2.2.2.1 3 (by decide)).1
  unfold tkE
  refine IV_acc (IV_acc (IV_tre (tkV_I hI 8 (Nat.le_refl 8)) ?_) (by decide)) (by decide)
  rw [n2, n12, hI.2.2.1.1, e12.1, nI_add]
  exact rg_nI hs (by decide)
theorem tk_h {v : mv} {i : Nat} (hi : 687 ≤ i) : tkE (tkV v 8) i = v i := by rw [tkE_h hi, tkV_h hi 8 (Nat.le_refl 8)]
theorem tk_Z {v : mv} (hZ : ZB v) : ZB (tkE (tkV v 8)) := ZB_up (ZB_up (ZB_up (tkV_Z hZ 8) (by decide)) (by decide)) (by decide)
end P2
