def sOK (j : Nat) (x : Int32) : Bool := decide (nI (loS j) ≤ x) && decide (x ≤ nI (hiS j))
theorem xc_e : ∀ j, j < 6 → mj_xc 0 j = nI (loS j) ∧ mj_xc 1 j = nI (hiS j) := by decide +kernel
theorem mj_ne6 {a b : Int32} (h : ∀ j, j < 6 → a ≠ nI j) (e : a = b) (hb : b = nI 0 ∨ b = nI 1 ∨ b = nI 2 ∨ b = nI 3 ∨ b = nI 4 ∨ b = nI 5 := by decide) : False := by
  rcases hb with g | g | g | g | g | g
  · exact h 0 (by decide) (e.trans g)
  · exact h 1 (by decide) (e.trans g)
  · exact h 2 (by decide) (e.trans g)
  · exact h 3 (by decide) (e.trans g)
  · exact h 4 (by decide) (e.trans g)
  · exact h 5 (by decide) (e.trans g)
section P2
variable {I : mj_I}
theorem C_X10_isSet {j : Nat} (hj : j < 6) {x : Int32} : mj_R D_X10_isSetting [.inl (nI j), .inl x] (mj_w I) (mj_ex (some (.inl (bi (sOK j x)))) I) := by
  refine mj_enter (by decide +kernel) (Nat.le_of_ble_eq_true rfl) ?_
  rcases (show j = 0 ∨ j = 1 ∨ j = 2 ∨ j = 3 ∨ j = 4 ∨ j = 5 by omega) with rfl | rfl | rfl | rfl | rfl | rfl
  · refine J_ild S_X10_isSetting rfl rfl ?_
    refine J_sw S_X10_isSetting rfl ⟨fun _ => ?_, fun c => False.elim (by revert c; decide)⟩
    refine J_ild S_X10_isSetting rfl rfl ?_
    refine J_C S_X10_isSetting rfl ?_
    refine J_C S_X10_isSetting rfl ?_
    refine J_CSx S_X10_isSetting rfl rfl (by simp) (C_X10_in) rfl ?_
    refine J_retZ S_X10_isSetting rfl (bi_01 _) ?_
    exact ⟨rfl, rfl⟩
  · refine J_ild S_X10_isSetting rfl rfl ?_
    refine J_sw S_X10_isSetting rfl ⟨fun c => False.elim (by revert c; decide), fun _ => ⟨fun _ => ?_, fun c => False.elim (by revert c; decide)⟩⟩
    refine J_ild S_X10_isSetting rfl rfl ?_
    refine J_C S_X10_isSetting rfl ?_
    refine J_C S_X10_isSetting rfl ?_
    refine J_CSx S_X10_isSetting rfl rfl (by simp) (C_X10_in) rfl ?_
    refine J_retZ S_X10_isSetting rfl (bi_01 _) ?_
    exact ⟨rfl, rfl⟩
  · refine J_ild S_X10_isSetting rfl rfl ?_
    refine J_sw S_X10_isSetting rfl ⟨fun c => False.elim (by revert c; decide), fun _ => ⟨fun c => False.elim (by revert c; decide), fun _ => ⟨fun _ => ?_, fun c => False.elim (by revert c; decide)⟩⟩⟩
    refine J_ild S_X10_isSetting rfl rfl ?_
    refine J_C S_X10_isSetting rfl ?_
    refine J_C S_X10_isSetting rfl ?_
    refine J_CSx S_X10_isSetting rfl rfl (by simp) (C_X10_in) rfl ?_
    refine J_retZ S_X10_isSetting rfl (bi_01 _) ?_
    exact ⟨rfl, rfl⟩
  · refine J_ild S_X10_isSetting rfl rfl ?_
    refine J_sw S_X10_isSetting rfl ⟨fun c => False.elim (by revert c; decide), fun _ => ⟨fun c => False.elim (by revert c; decide), fun _ => ⟨fun c => False.elim (by revert c; decide), fun _ => ⟨fun _ => ?_, fun c => False.elim (by revert c; decide)⟩⟩⟩⟩
    refine J_ild S_X10_isSetting rfl rfl ?_
    refine J_C S_X10_isSetting rfl ?_
    refine J_C S_X10_isSetting rfl ?_
    refine J_CSx S_X10_isSetting rfl rfl (by simp) (C_X10_in) rfl ?_
    refine J_retZ S_X10_isSetting rfl (bi_01 _) ?_
    exact ⟨rfl, rfl⟩
  · refine J_ild S_X10_isSetting rfl rfl ?_
    refine J_sw S_X10_isSetting rfl ⟨fun c => False.elim (by revert c; decide), fun _ => ⟨fun c => False.elim (by revert c; decide), fun _ => ⟨fun c => False.elim (by revert c; decide), fun _ => ⟨fun c => False.elim (by revert c; decide), fun _ => ⟨fun _ => ?_, fun c => False.elim (by revert c; decide)⟩⟩⟩⟩⟩
    refine J_ild S_X10_isSetting rfl rfl ?_
    refine J_C S_X10_isSetting rfl ?_
    refine J_C S_X10_isSetting rfl ?_
    refine J_CSx S_X10_isSetting rfl rfl (by simp) (C_X10_in) rfl ?_
    refine J_retZ S_X10_isSetting rfl (bi_01 _) ?_
    exact ⟨rfl, rfl⟩
  · refine J_ild S_X10_isSetting rfl rfl ?_
    refine J_sw S_X10_isSetting rfl ⟨fun c => False.elim (by revert c; decide), fun _ => ⟨fun c => False.elim (by revert c; decide), fun _ => ⟨fun c => False.elim (by revert c; decide), fun _ => ⟨fun c => False.elim (by revert c; decide), fun _ => ⟨fun c => False.elim (by revert c; decide), fun _ => ⟨fun _ => ?_, fun c => False.elim (by revert c; decide)⟩⟩⟩⟩⟩⟩
    refine J_ild S_X10_isSetting rfl rfl ?_
    refine J_C S_X10_isSetting rfl ?_
    refine J_C S_X10_isSetting rfl ?_
    refine J_CSx S_X10_isSetting rfl rfl (by simp) (C_X10_in) rfl ?_
    refine J_retZ S_X10_isSetting rfl (bi_01 _) ?_
    exact ⟨rfl, rfl⟩
theorem C_X10_isSet_o {a x : Int32} (h : ∀ j, j < 6 → a ≠ nI j) : mj_R D_X10_isSetting [.inl a, .inl x] (mj_w I) (mj_ex (some (.inl 0)) I) := by
  refine mj_enter (by decide +kernel) (Nat.le_of_ble_eq_true rfl) ?_
  refine J_ild S_X10_isSetting rfl rfl ?_
  refine J_sw S_X10_isSetting rfl ⟨fun c => False.elim (mj_ne6 h c), fun _ => ⟨fun c => False.elim (mj_ne6 h c), fun _ => ⟨fun c => False.elim (mj_ne6 h c), fun _ => ⟨fun c => False.elim (mj_ne6 h c), fun _ => ⟨fun c => False.elim (mj_ne6 h c), fun _ => ⟨fun c => False.elim (mj_ne6 h c), fun _ => ?_⟩⟩⟩⟩⟩⟩
  refine J_C S_X10_isSetting rfl ?_
  refine J_retZ S_X10_isSetting rfl (by decide) ?_
  exact ⟨rfl, rfl⟩
theorem C_X9_isSet {j : Nat} (hj : j < 6) {x : Int32} : mj_R D_X9_isSetting [.inl (nI j), .inl x] (mj_w I) (mj_ex (some (.inl (bi (sOK j x)))) I) := by
  obtain ⟨e1, e2⟩ := xc_e j hj
  refine mj_enter (by decide +kernel) (Nat.le_of_ble_eq_true rfl) ?_
  unfold sOK
  by_cases h1 : nI (loS j) ≤ x
  · by_cases h2 : x ≤ nI (hiS j)
    · rw [decide_eq_true h1, decide_eq_true h2]
      refine J_ild S_X9_isSetting rfl rfl ?_
      refine J_if S_X9_isSetting rfl (fun c1 => False.elim (nI_pos (by omega) c1)) (fun c1 => ?_)
      refine J_ild S_X9_isSetting rfl rfl ?_
      refine J_gets S_X9_isSetting rfl ?_
      refine J_xlen S_X9_isSetting rfl ?_
      refine J_cmp S_X9_isSetting rfl (fun c9 => False.elim (nI_ge hj (by omega) c9)) (fun c9 => ?_)
      refine J_ild S_X9_isSetting rfl rfl ?_
      refine J_gets S_X9_isSetting rfl ?_
      refine J_xlen S_X9_isSetting rfl ?_
      refine J_cmp S_X9_isSetting rfl (fun c17 => False.elim (nI_ge hj (by omega) c17)) (fun c17 => ?_)
      refine J_ild S_X9_isSetting rfl rfl ?_
      refine J_gets S_X9_isSetting rfl ?_
      refine J_ild S_X9_isSetting rfl rfl ?_
      refine J_xald S_X9_isSetting rfl rfl (by omega) ?_
      rw [e1]
      refine J_cmp S_X9_isSetting rfl (fun c26 => False.elim (Int32.not_lt.mpr h1 c26)) (fun c26 => ?_)
      refine J_ild S_X9_isSetting rfl rfl ?_
      refine J_gets S_X9_isSetting rfl ?_
      refine J_ild S_X9_isSetting rfl rfl ?_
      refine J_xald S_X9_isSetting rfl rfl (by omega) ?_
      rw [e2]
      refine J_cmp S_X9_isSetting rfl (fun c35 => False.elim (Int32.not_lt.mpr h2 c35)) (fun c35 => ?_)
      refine J_C S_X9_isSetting rfl ?_
      refine J_goto S_X9_isSetting rfl ?_
      refine J_retZ S_X9_isSetting rfl (by decide) ?_
      exact ⟨rfl, rfl⟩
    · rw [decide_eq_true h1, decide_eq_false h2]
      refine J_ild S_X9_isSetting rfl rfl ?_
      refine J_if S_X9_isSetting rfl (fun c1 => False.elim (nI_pos (by omega) c1)) (fun c1 => ?_)
      refine J_ild S_X9_isSetting rfl rfl ?_
      refine J_gets S_X9_isSetting rfl ?_
      refine J_xlen S_X9_isSetting rfl ?_
      refine J_cmp S_X9_isSetting rfl (fun c9 => False.elim (nI_ge hj (by omega) c9)) (fun c9 => ?_)
      refine J_ild S_X9_isSetting rfl rfl ?_
      refine J_gets S_X9_isSetting rfl ?_
      refine J_xlen S_X9_isSetting rfl ?_
      refine J_cmp S_X9_isSetting rfl (fun c17 => False.elim (nI_ge hj (by omega) c17)) (fun c17 => ?_)
      refine J_ild S_X9_isSetting rfl rfl ?_
      refine J_gets S_X9_isSetting rfl ?_
      refine J_ild S_X9_isSetting rfl rfl ?_
      refine J_xald S_X9_isSetting rfl rfl (by omega) ?_
      rw [e1]
      refine J_cmp S_X9_isSetting rfl (fun c26 => False.elim (Int32.not_lt.mpr h1 c26)) (fun c26 => ?_)
      refine J_ild S_X9_isSetting rfl rfl ?_
      refine J_gets S_X9_isSetting rfl ?_
      refine J_ild S_X9_isSetting rfl rfl ?_
      refine J_xald S_X9_isSetting rfl rfl (by omega) ?_
      rw [e2]
      refine J_cmp S_X9_isSetting rfl (fun c35 => ?_) (fun c35 => False.elim (c35 (Int32.not_le.mp h2)))
      refine J_C S_X9_isSetting rfl ?_
      refine J_retZ S_X9_isSetting rfl (by decide) ?_
      exact ⟨rfl, rfl⟩
  · rw [decide_eq_false h1]
    refine J_ild S_X9_isSetting rfl rfl ?_
    refine J_if S_X9_isSetting rfl (fun c1 => False.elim (nI_pos (by omega) c1)) (fun c1 => ?_)
    refine J_ild S_X9_isSetting rfl rfl ?_
    refine J_gets S_X9_isSetting rfl ?_
    refine J_xlen S_X9_isSetting rfl ?_
    refine J_cmp S_X9_isSetting rfl (fun c9 => False.elim (nI_ge hj (by omega) c9)) (fun c9 => ?_)
    refine J_ild S_X9_isSetting rfl rfl ?_
    refine J_gets S_X9_isSetting rfl ?_
    refine J_xlen S_X9_isSetting rfl ?_
    refine J_cmp S_X9_isSetting rfl (fun c17 => False.elim (nI_ge hj (by omega) c17)) (fun c17 => ?_)
    refine J_ild S_X9_isSetting rfl rfl ?_
    refine J_gets S_X9_isSetting rfl ?_
    refine J_ild S_X9_isSetting rfl rfl ?_
    refine J_xald S_X9_isSetting rfl rfl (by omega) ?_
    rw [e1]
    refine J_cmp S_X9_isSetting rfl (fun c26 => ?_) (fun c26 => False.elim (c26 (Int32.not_le.mp h1)))
    refine J_C S_X9_isSetting rfl ?_
    refine J_retZ S_X9_isSetting rfl (by decide) ?_
    exact ⟨rfl, rfl⟩
theorem C_X9_isSet_o {a x : Int32} (h : a < 0 ∨ nI 6 ≤ a) : mj_R D_X9_isSetting [.inl a, .inl x] (mj_w I) (mj_ex (some (.inl 0)) I) := by
  refine mj_enter (by decide +kernel) (Nat.le_of_ble_eq_true rfl) ?_
  by_cases h0 : a < 0
  · refine J_ild S_X9_isSetting rfl rfl ?_
    refine J_if S_X9_isSetting rfl (fun c1 => ?_) (fun c1 => False.elim (c1 h0))
    refine J_C S_X9_isSetting rfl ?_
    refine J_retZ S_X9_isSetting rfl (by decide) ?_
    exact ⟨rfl, rfl⟩
  · have h6 : 6 ≤ a := h.resolve_left h0
    refine J_ild S_X9_isSetting rfl rfl ?_
    refine J_if S_X9_isSetting rfl (fun c1 => False.elim (h0 c1)) (fun c1 => ?_)
    refine J_ild S_X9_isSetting rfl rfl ?_
    refine J_gets S_X9_isSetting rfl ?_
    refine J_xlen S_X9_isSetting rfl ?_
    refine J_cmp S_X9_isSetting rfl (fun c9 => ?_) (fun c9 => False.elim (c9 h6))
    refine J_C S_X9_isSetting rfl ?_
    refine J_retZ S_X9_isSetting rfl (by decide) ?_
    exact ⟨rfl, rfl⟩
theorem X10_set_no {a x : Int32} (h : mj_R D_X10_isSetting [.inl a, .inl x] (mj_w I) (mj_ex (some (.inl 0)) I)) : mj_R D_X10_set [.inr (some 313), .inl a, .inl x] (mj_w I) (mj_ex (some (.inl (-100000001))) I) := by
  refine mj_enter (by decide +kernel) (Nat.le_of_ble_eq_true rfl) ?_
  refine J_ild S_X10_set rfl rfl ?_
  refine J_ild S_X10_set rfl rfl ?_
  refine J_CSx S_X10_set rfl rfl (by simp) (h) rfl ?_
  refine J_if S_X10_set rfl (fun c5 => False.elim (c5 rfl)) (fun c5 => ?_)
  refine J_C S_X10_set rfl ?_
  refine J_retI S_X10_set rfl ?_
  exact ⟨rfl, rfl⟩
theorem X9_set_no {a x : Int32} (h : mj_R D_X9_isSetting [.inl a, .inl x] (mj_w I) (mj_ex (some (.inl 0)) I)) : mj_R D_X9_set [.inr (some 0), .inl a, .inl x] (mj_w I) (mj_ex (some (.inl (-100000001))) I) := by
  refine mj_enter (by decide +kernel) (Nat.le_of_ble_eq_true rfl) ?_
  refine J_ild S_X9_set rfl rfl ?_
  refine J_ild S_X9_set rfl rfl ?_
  refine J_CSx S_X9_set rfl rfl (by simp) (h) rfl ?_
  refine J_if S_X9_set rfl (fun c5 => False.elim (c5 rfl)) (fun c5 => ?_)
  refine J_C S_X9_set rfl ?_
  refine J_retI S_X9_set rfl ?_
  exact ⟨rfl, rfl⟩
theorem P_set (h : Rl I) (a x : Int32) : PRI D_X9_set D_X10_set [.inl a, .inl x] I := by
  have hRl := h
  obtain ⟨o, n, L, hc, h2, h4⟩ := h
  have m0 := s_0
  have m1 := s_1
  have m2 := s_2
  have m4 := mj_S4.1
  have m5 := mj_B5.1
  have m6 : mj_sh 6 = (2, 3) := mj_B5.2.1
  have m52 := s_52
  have m294 := s_294
  have hR : RB I 5 (I 314) := hc.1.1
  have hI : IV (I 314) := hc.1.2.1
  have hZ : ZB (I 314) := hc.1.2.2.1
  have hn : n ≤ 5 := hc.2.1.2.2.2.1
  have hle : tn (I 314 0) ≤ 200 := hI.1.2
  rcases pk_ix a (n := 6) (by decide) with ha | ha | ⟨j, hj, rfl⟩
  · exact PR_no (x := -100000001) hRl (X9_set_no (C_X9_isSet_o (Or.inl ha))) (fun I1 _ => X10_set_no (C_X10_isSet_o (fun j hj e => nI_pos (by omega) (e ▸ ha))))
  · exact PR_no (x := -100000001) hRl (X9_set_no (C_X9_isSet_o (Or.inr ha))) (fun I1 _ => X10_set_no (C_X10_isSet_o (fun j hj e => nI_ge hj (by omega) (e ▸ ha))))
  · have g9 := fun J => C_X9_isSet (I := J) hj (x := x)
    have g10 := fun J => C_X10_isSet (I := J) hj (x := x)
    cases hs : sOK j x
    · rw [hs] at g9 g10
      exact PR_no (x := -100000001) hRl (X9_set_no (g9 I)) (fun I1 _ => X10_set_no (g10 I1))
    · rw [hs] at g9 g10
      unfold sOK at hs
      rw [Bool.and_eq_true, decide_eq_true_eq, decide_eq_true_eq] at hs
      have hlo : loS j < 2 ^ 31 := by
        have : ∀ j, j < 6 → loS j < 100 := by decide
        have := this j hj
        omega
      have hhi : hiS j < 2 ^ 31 := by
        have : ∀ j, j < 6 → hiS j < 1000 := by decide
        have := this j hj
        omega
      have h0 : 0 ≤ x := by
        have g := hs.1
        have g0 := nI_pos' hlo
        rw [fa_le] at g g0 ⊢
        omega
      obtain ⟨k, hk, rfl⟩ := i_rng hhi h0 hs.2
      have hk1 := (nI_leI hlo (by omega)).mp hs.1
      have e5 : I (5 + 5) j = I 314 (9 + j) := hR.2.2.1 j hj
      refine PR_act (x := I 314 (9 + j)) (n := n) (w' := upd (I 314) (9 + j) (nI k)) (w'' := upd (I 314) (9 + j) (nI k)) h4 ?_ (fun I1 hu => ?_) (fun _ _ => rfl)
      · refine mj_enter (by decide +kernel) (Nat.le_of_ble_eq_true rfl) ?_
        have hrec := Z_rec hc
        refine J_ild S_X9_set rfl rfl ?_
        refine J_ild S_X9_set rfl rfl ?_
        refine J_CSx S_X9_set rfl rfl (by simp) (g9 I) rfl ?_
        refine J_if S_X9_set rfl (fun c5 => ?_) (fun c5 => False.elim (absurd c5 (by decide)))
        refine J_ald S_X9_set rfl rfl ?_
        refine J_getR S_X9_set rfl (o' := 52) (by assumption) (by omega) rfl ?_
        refine J_ald S_X9_set rfl rfl ?_
        refine J_getR S_X9_set rfl (o' := 4) (by assumption) (by omega) rfl ?_
        refine J_CV S_X9_set rfl rfl (by assumption) (by omega) (by simp) (hrec) ?_
        rintro _ _ ⟨I1, rfl, rfl, hr⟩
        refine J_ald S_X9_set rfl rfl ?_
        refine J_getR S_X9_set rfl (o' := 4) (by assumption) (by omega) rfl ?_
        refine J_getR S_X9_set rfl (o' := 5) (by assumption) (by omega) rfl ?_
        refine J_ild S_X9_set rfl rfl ?_
        refine J_CVx S_X9_set rfl rfl (by assumption) (by omega) (by simp) (C_X0_setting mj_B5 hj) rfl ?_
        refine J_ist S_X9_set rfl rfl ?_
        refine J_ald S_X9_set rfl rfl ?_
        refine J_getR S_X9_set rfl (o' := 4) (by assumption) (by omega) rfl ?_
        refine J_getR S_X9_set rfl (o' := 5) (by assumption) (by omega) rfl ?_
        refine J_ild S_X9_set rfl rfl ?_
        refine J_ild S_X9_set rfl rfl ?_
        refine J_CVx S_X9_set rfl rfl (by assumption) (by omega) (by simp) (C_X0_changeSetting mj_B5 hj) rfl ?_
        refine J_ild S_X9_set rfl rfl ?_
        refine J_retI S_X9_set rfl ?_
        rw [hr.1 (5 + 5) (by omega), e5]
        have g := RC_B hc hr (RB_st (i := j) (x := nI k) hle (RC_R hc hr).1 hj) (fr_up fr_rf (by omega) (by omega)) (IV_set hI hj (rg_nI hk hhi) (by rw [tn_nI (by omega)]; exact hk1)) (ZB_up hZ (by omega)) (fun i hi => by rw [up_n (by omega)])
        exact ⟨_, rfl, rfl, g.2, _, g.1⟩
      · have e := hu 314 (by decide)
        have g := C_X10_set (I := I1) (n := n) (i := j) (x := nI k) (by rw [hu 313 (by decide)]; exact h2) hn hj (g10 I1)
        rw [e] at g
        exact g
theorem X10_tick_full (h : ¬ I 314 2 + I 314 12 ≤ 9999) : mj_R D_X10_tick [.inr (some 313)] (mj_w I) (mj_ex (some (.inl (-100000003))) I) := by
  have m0 := s_313
  have m1 := s_314
  refine mj_enter (by decide +kernel) (Nat.le_of_ble_eq_true rfl) ?_
  refine J_ald S_X10_tick rfl rfl ?_
  refine J_getR S_X10_tick rfl (o' := 314) (by assumption) (by omega) rfl ?_
  refine J_C S_X10_tick rfl ?_
  refine J_iald S_X10_tick rfl (by assumption) (by omega) (j := 2) rfl (by omega) (by decide) ?_
  refine J_ald S_X10_tick rfl rfl ?_
  refine J_getR S_X10_tick rfl (o' := 314) (by assumption) (by omega) rfl ?_
  refine J_C S_X10_tick rfl ?_
  refine J_iald S_X10_tick rfl (by assumption) (by omega) (j := 12) rfl (by omega) (by decide) ?_
  refine J_bin S_X10_tick rfl ?_
  refine J_C S_X10_tick rfl ?_
  refine J_cmp S_X10_tick rfl (fun c17 => False.elim (h c17)) (fun c17 => ?_)
  refine J_C S_X10_tick rfl ?_
  refine J_retI S_X10_tick rfl ?_
  exact ⟨rfl, rfl⟩
theorem tk_ans {v : mv} (hI : IV v) : msk (fun q => tkB (tkV v q) q) 8 = msk (fun q => tkB (tkV v q) q) (tn (v 1)) := by
  refine msk_zero hI.2.1.2 (fun i h1 h2 => ?_)
  unfold tkB
  rw [ex_f (by rw [tkV_k (by decide) i (Nat.le_refl i)]; exact hI.2.2.2.2.2.2 i h1 h2)]
  rfl
theorem tk_vec {v : mv} (hI : IV v) : tkV v 8 = tkV v (tn (v 1)) := by
  have h := tkV_end hI (8 - tn (v 1)) (by have := hI.2.1.2; omega)
  rw [show tn (v 1) + (8 - tn (v 1)) = 8 by have := hI.2.1.2; omega] at h
  exact h
theorem tkE_h {v : mv} {i : Nat} (hi : 687 ≤ i) : tkE v i = v i := by
  unfold tkE
  rw [up_n (by omega), up_n (by omega), up_n (by omega)]
theorem X9_tick_ok {w p : mv} {o n L : Nat} {f : Nat → Int32} (hc : CR I w p o n L f) (ht : I 5 5 + I (5 + 5) 3 ≤ 9999) : mj_R D_X9_tick [.inr (some 0)] (mj_w I) (mj_px (fun r I2 => r = some (.inl (nI (msk (fun q => tkB (tkV w q) q) 8))) ∧ ∃ I1, RC I I1 w p o n ∧ RB I2 5 (tkE (tkV w 8)) ∧ Fr 5 I1 I2)) := by
  have m0 := s_0
  have m4 := mj_S4.1
  have m5 := mj_B5.1
  have m52 := s_52
  have hrec := Z_rec hc
  have hpt := fun (I1 : mj_I) (hr : RC I I1 w p o n) => C_X0_passTick (I := I1) mj_B5 (RC_R hc hr).1 hc.1.2.1
  refine mj_enter (by decide +kernel) (Nat.le_of_ble_eq_true rfl) ?_
  refine J_ald S_X9_tick rfl rfl ?_
  refine J_getR S_X9_tick rfl (o' := 4) (by assumption) (by omega) rfl ?_
  refine J_getR S_X9_tick rfl (o' := 5) (by assumption) (by omega) rfl ?_
  refine J_ast S_X9_tick rfl rfl ?_
  refine J_ald S_X9_tick rfl rfl ?_
  refine J_getI S_X9_tick rfl (by assumption) (by omega) ?_
  refine J_ald S_X9_tick rfl rfl ?_
  refine J_C S_X9_tick rfl ?_
  refine J_CVx S_X9_tick rfl rfl (by assumption) (by omega) (by simp) (C_X0_setting mj_B5 (by decide)) rfl ?_
  refine J_bin S_X9_tick rfl ?_
  refine J_C S_X9_tick rfl ?_
  refine J_cmp S_X9_tick rfl (fun c21 => ?_) (fun c21 => False.elim (c21 ht))
  refine J_ald S_X9_tick rfl rfl ?_
  refine J_getR S_X9_tick rfl (o' := 52) (by assumption) (by omega) rfl ?_
  refine J_ald S_X9_tick rfl rfl ?_
  refine J_getR S_X9_tick rfl (o' := 4) (by assumption) (by omega) rfl ?_
  refine J_CV S_X9_tick rfl rfl (by assumption) (by omega) (by simp) (hrec) ?_
  rintro _ _ ⟨I1, rfl, rfl, hr⟩
  refine J_ald S_X9_tick rfl rfl ?_
  refine J_CV S_X9_tick rfl rfl (by assumption) (by omega) (by simp) (hpt I1 hr) ?_
  rintro _ _ ⟨I2, rfl, rfl, g1, g2⟩
  refine J_retI S_X9_tick rfl ?_
  exact ⟨I2, rfl, rfl, I1, hr, g1, g2⟩
theorem X9_tick_full (ht : ¬ I 5 5 + I (5 + 5) 3 ≤ 9999) : mj_R D_X9_tick [.inr (some 0)] (mj_w I) (mj_ex (some (.inl (-100000003))) I) := by
  have m0 := s_0
  have m4 := mj_S4.1
  have m5 := mj_B5.1
  refine mj_enter (by decide +kernel) (Nat.le_of_ble_eq_true rfl) ?_
  refine J_ald S_X9_tick rfl rfl ?_
  refine J_getR S_X9_tick rfl (o' := 4) (by assumption) (by omega) rfl ?_
  refine J_getR S_X9_tick rfl (o' := 5) (by assumption) (by omega) rfl ?_
  refine J_ast S_X9_tick rfl rfl ?_
  refine J_ald S_X9_tick rfl rfl ?_
  refine J_getI S_X9_tick rfl (by assumption) (by omega) ?_
  refine J_ald S_X9_tick rfl rfl ?_
  refine J_C S_X9_tick rfl ?_
  refine J_CVx S_X9_tick rfl rfl (by assumption) (by omega) (by simp) (C_X0_setting mj_B5 (by decide)) rfl ?_
  refine J_bin S_X9_tick rfl ?_
  refine J_C S_X9_tick rfl ?_
  refine J_cmp S_X9_tick rfl (fun c21 => False.elim (ht c21)) (fun c21 => ?_)
  refine J_C S_X9_tick rfl ?_
  refine J_retI S_X9_tick rfl ?_
  exact ⟨rfl, rfl⟩
theorem tk_w {v : mv} (hI : IV v) (hs : tn (v 2) + tn (v 12) ≤ 9999) : IV (tkE (tkV v 8)) := by
  have n2 : tkV v 8 2 = v 2 := tkV_o (by decide) (fun k => by omega) 8
  have n12 : tkV v 8 12 = v 12 := tkV_o (by decide) (fun k => by omega) 8
  have e12 : rg (v 12) 100 := (hI.2.2.2.1 3 (by decide)).1
  unfold tkE
  refine IV_acc (IV_acc (IV_tre (tkV_I hI 8 (Nat.le_refl 8)) ?_) (by decide)) (by decide)
  rw [n2, n12, hI.2.2.1.1, e12.1, nI_add]
  exact rg_nI hs (by decide)
theorem tk_h {v : mv} {i : Nat} (hi : 687 ≤ i) : tkE (tkV v 8) i = v i := by rw [tkE_h hi, tkV_h hi 8 (Nat.le_refl 8)]
theorem tk_Z {v : mv} (hZ : ZB v) : ZB (tkE (tkV v 8)) := ZB_up (ZB_up (ZB_up (tkV_Z hZ 8) (by decide)) (by decide)) (by decide)
theorem P_tick (h : Rl I) : PRI D_X9_tick D_X10_tick [] I := by
  have hRl := h
  obtain ⟨o, n, L, hc, h2, h4⟩ := h
  have m0 := s_0
  have m1 := s_1
  have m2 := s_2
  have m4 := mj_S4.1
  have m5 := mj_B5.1
  have m6 : mj_sh 6 = (2, 3) := mj_B5.2.1
  have m52 := s_52
  have m294 := s_294
  have hR : RB I 5 (I 314) := hc.1.1
  have hI : IV (I 314) := hc.1.2.1
  have hZ : ZB (I 314) := hc.1.2.2.1
  have hn : n ≤ 5 := hc.2.1.2.2.2.1
  have hle : tn (I 314 0) ≤ 200 := hI.1.2
  have et : I 5 5 = I 314 2 := hR.2.1 1 (by decide)
  have e3 : I (5 + 5) 3 = I 314 12 := hR.2.2.1 3 (by decide)
  have e2 := hI.2.2.1
  have e12 : rg (I 314 12) 100 := (hI.2.2.2.1 3 (by decide)).1
  by_cases hf : I 314 2 + I 314 12 ≤ 9999
  · have hs : tn (I 314 2) + tn (I 314 12) ≤ 9999 := by
      rw [e2.1, e12.1, nI_add] at hf
      exact (nI_leI (b := 9999) (by have := e2.2; have := e12.2; omega) (by decide)).mp hf
    refine PR_act (x := nI (msk (fun q => tkB (tkV (I 314) q) q) 8)) (n := n) (w' := tkE (tkV (I 314) 8)) (w'' := tkE (tkV (I 314) (tn (I 314 1)))) h4 ?_ (fun I1 hu => ?_) (fun _ _ => by rw [tk_vec hI])
    · refine R_imp (X9_tick_ok hc (by rw [et, e3]; exact hf)) ?_
      rintro r I2 ⟨g0, I1, hr, g1, g2⟩
      have g := RC_B hc hr g1 g2 (tk_w hI hs) (tk_Z hZ) (fun i hi => tk_h hi)
      exact ⟨g0, g.2, _, g.1⟩
    · have e := hu 314 (by decide)
      have g := C_X10_tick (I := I1) (n := n) (by rw [e]; exact hI) (by rw [hu 313 (by decide)]; exact h2) hn (by rw [e]; exact hs)
      rw [e] at g
      rw [tk_ans hI]
      exact g
  · exact PR_no (x := -100000003) hRl (X9_tick_full (by rw [et, e3]; exact hf)) (fun I1 hu => X10_tick_full (by rw [hu 314 (by decide)]; exact hf))
end P2
