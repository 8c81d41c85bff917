section P7
variable {I : mj_I}
theorem X10_isPlace (hI : IV (I 314)) {a : Int32} : mj_R D_X10_isPlace [.inr (some 313), .inl a] (mj_w I) (mj_ex (some (.inl (bi (decide (0 ≤ a) && decide (a ≤ I 314 0))))) I) := by
  have m0 := s_313
  have m1 := s_314
  refine mj_enter (by decide +kernel) (Nat.le_of_ble_eq_true rfl) ?_
  refine J_ild S_X10_isPlace rfl rfl ?_
  refine J_C S_X10_isPlace rfl ?_
  refine J_ald S_X10_isPlace rfl rfl ?_
  refine J_getR S_X10_isPlace rfl (o' := 314) (by assumption) (by omega) rfl ?_
  refine J_C S_X10_isPlace rfl ?_
  refine J_iald S_X10_isPlace rfl (by assumption) (by omega) (j := 0) rfl (by omega) (by decide) ?_
  refine J_CSx S_X10_isPlace rfl rfl (by simp) (C_X10_in) rfl ?_
  refine J_retZ S_X10_isPlace rfl (bi_01 _) ?_
  exact ⟨rfl, rfl⟩
theorem pl_t (hI : IV (I 314)) {a : Int32} (h : 0 ≤ a ∧ a ≤ I 314 0) : mj_R D_X10_isPlace [.inr (some 313), .inl a] (mj_w I) (mj_ex (some (.inl 1)) I) := by
  have g := X10_isPlace (I := I) hI (a := a)
  rw [decide_eq_true h.1, decide_eq_true h.2] at g
  exact g
theorem pl_f (hI : IV (I 314)) {a : Int32} (h : ¬ (0 ≤ a ∧ a ≤ I 314 0)) : mj_R D_X10_isPlace [.inr (some 313), .inl a] (mj_w I) (mj_ex (some (.inl 0)) I) := by
  have g := X10_isPlace (I := I) hI (a := a)
  rw [show (decide (0 ≤ a) && decide (a ≤ I 314 0)) = false by
    by_cases c : 0 ≤ a
    · rw [decide_eq_false (fun d => h ⟨c, d⟩), Bool.and_false]
    · rw [decide_eq_false c, Bool.false_and]] at g
  exact g
/-- a place of the log -/
theorem pl_n {v : mv} (hI : IV v) {a : Int32} (h : 0 ≤ a ∧ a ≤ v 0) : ∃ j, j ≤ tn (v 0) ∧ a = nI j := by
  obtain ⟨h1, h2⟩ := h
  rw [hI.1.1] at h2
  exact i_rng (by have := hI.1.2; omega) h1 h2
/-! value -/
theorem lg_tab {v : mv} (hR : RB I 5 v) {c : Nat} (hI : IV v) (hc : c < 24) : ∀ n, n ≤ tn (v 0) → lg_at I 5 (nI c) n = tabv v c n
  | 0, _ => rfl
  | n + 1, h => by
    have h1 := hR.2.2.2.1 n (by omega)
    have hcl := hI.cl_lt (j := n) (by omega)
    rw [lg_at, tabv, h1.1, h1.2, lg_tab hR hI hc n (by omega)]
    by_cases e : cl v n = c
    · rw [if_pos e, if_pos (by rw [e])]
    · rw [if_neg e, if_neg (fun g => e ((nI_eq (by omega) (by omega)).mp g))]
theorem X9_value_no {w : mv} (hR : RB I 5 w) {a b c : Int32} (h : ¬ ((0 ≤ a ∧ a ≤ 1) ∧ (0 ≤ b ∧ b ≤ 11) ∧ (0 ≤ c ∧ c ≤ w 0))) : mj_R D_X9_value [.inr (some 0), .inl a, .inl b, .inl c] (mj_w I) (mj_ex (some (.inl (-100000001))) I) := by
  have m0 := s_0
  have m4 := mj_S4.1
  have m5 := mj_B5.1
  have m6 : mj_sh 6 = (2, 3) := mj_B5.2.1
  have e0 : I 6 2 = w 0 := hR.1
  have hcell := C_X9_isCell (I := I) (x := a) (y := b)
  refine mj_enter (by decide +kernel) (Nat.le_of_ble_eq_true rfl) ?_
  by_cases h1 : 0 ≤ a ∧ a < 2 ∧ 0 ≤ b ∧ b < 12
  · rw [if_pos h1] at hcell
    have h3 : ¬ (0 ≤ c ∧ c ≤ w 0) := fun h3 => h ⟨⟨h1.1, (i_lt2 a).mp h1.2.1⟩, ⟨h1.2.2.1, (i_lt12 b).mp h1.2.2.2⟩, h3⟩
    refine J_ald S_X9_value rfl rfl ?_
    refine J_getR S_X9_value rfl (o' := 4) (by assumption) (by omega) rfl ?_
    refine J_getR S_X9_value rfl (o' := 5) (by assumption) (by omega) rfl ?_
    refine J_getR S_X9_value rfl (o' := 6) (by assumption) (by omega) rfl ?_
    refine J_ast S_X9_value rfl rfl ?_
    refine J_ild S_X9_value rfl rfl ?_
    refine J_ild S_X9_value rfl rfl ?_
    refine J_CSx S_X9_value rfl rfl (by simp) (hcell) rfl ?_
    refine J_if S_X9_value rfl (fun c17 => False.elim (absurd c17 (by decide))) (fun c17 => ?_)
    refine J_ild S_X9_value rfl rfl ?_
    refine J_if S_X9_value rfl (fun c21 => ?_) (fun c21 => ?_)
    · refine J_C S_X9_value rfl ?_
      refine J_retI S_X9_value rfl ?_
      exact ⟨rfl, rfl⟩
    · refine J_ild S_X9_value rfl rfl ?_
      refine J_ald S_X9_value rfl rfl ?_
      refine J_getI S_X9_value rfl (by assumption) (by omega) ?_
      rw [e0]
      refine J_cmp S_X9_value rfl (fun c30 => ?_) (fun c30 => ?_)
      · exact absurd ⟨Int32.not_lt.mp c21, c30⟩ h3
      · refine J_C S_X9_value rfl ?_
        refine J_retI S_X9_value rfl ?_
        exact ⟨rfl, rfl⟩
  · rw [if_neg h1] at hcell
    refine J_ald S_X9_value rfl rfl ?_
    refine J_getR S_X9_value rfl (o' := 4) (by assumption) (by omega) rfl ?_
    refine J_getR S_X9_value rfl (o' := 5) (by assumption) (by omega) rfl ?_
    refine J_getR S_X9_value rfl (o' := 6) (by assumption) (by omega) rfl ?_
    refine J_ast S_X9_value rfl rfl ?_
    refine J_ild S_X9_value rfl rfl ?_
    refine J_ild S_X9_value rfl rfl ?_
    refine J_CSx S_X9_value rfl rfl (by simp) (hcell) rfl ?_
    refine J_if S_X9_value rfl (fun c17 => ?_) (fun c17 => False.elim (c17 rfl))
    refine J_C S_X9_value rfl ?_
    refine J_retI S_X9_value rfl ?_
    exact ⟨rfl, rfl⟩
theorem X9_value_ok {w : mv} (hR : RB I 5 w) (hI : IV w) {a b n : Nat} (ha : a ≤ 1) (hb : b ≤ 11) (hn : n ≤ tn (w 0)) : mj_R D_X9_value [.inr (some 0), .inl (nI a), .inl (nI b), .inl (nI n)] (mj_w I) (mj_ex (some (.inl (if tabv w (12 * a + b) n < 0 then -100000009 else tabv w (12 * a + b) n))) I) := by
  have m0 := s_0
  have m4 := mj_S4.1
  have m5 := mj_B5.1
  have m6 : mj_sh 6 = (2, 3) := mj_B5.2.1
  have e0 : I 6 2 = nI (tn (w 0)) := by rw [← hI.1.1]; exact hR.1
  have hle := hI.1.2
  have hcell := X9_cell (I := I) (a := nI a) (b := nI b) ⟨nI_pos' (by omega), nI_le (b := 1) ha (by decide)⟩ ⟨nI_pos' (by omega), nI_le (b := 11) hb (by decide)⟩
  have ec : nI a * 12 + nI b = nI (12 * a + b) := by rw [show (12 : Int32) = nI 12 from rfl, pk_mul, nI_add, Nat.mul_comm]
  have hva := C_X2_valueAt (I := I) mj_B5 (n := n) (by omega) (x := nI (12 * a + b))
  rw [lg_tab hR hI (by omega) n hn] at hva
  have hco := C_X9_cellOf (I := I) (x := nI a) (y := nI b)
  rw [ec] at hco
  have ht := tabv_ok hI (12 * a + b) n hn
  refine mj_enter (by decide +kernel) (Nat.le_of_ble_eq_true rfl) ?_
  generalize tabv w (12 * a + b) n = t at *
  by_cases c : t = -1
  · rw [if_pos (by rw [c]; decide)]
    refine J_ald S_X9_value rfl rfl ?_
    refine J_getR S_X9_value rfl (o' := 4) (by assumption) (by omega) rfl ?_
    refine J_getR S_X9_value rfl (o' := 5) (by assumption) (by omega) rfl ?_
    refine J_getR S_X9_value rfl (o' := 6) (by assumption) (by omega) rfl ?_
    refine J_ast S_X9_value rfl rfl ?_
    refine J_ild S_X9_value rfl rfl ?_
    refine J_ild S_X9_value rfl rfl ?_
    refine J_CSx S_X9_value rfl rfl (by simp) (hcell) rfl ?_
    refine J_if S_X9_value rfl (fun c17 => False.elim (absurd c17 (by decide))) (fun c17 => ?_)
    refine J_ild S_X9_value rfl rfl ?_
    refine J_if S_X9_value rfl (fun c21 => False.elim (nI_pos (by omega) c21)) (fun c21 => ?_)
    refine J_ild S_X9_value rfl rfl ?_
    refine J_ald S_X9_value rfl rfl ?_
    refine J_getI S_X9_value rfl (by assumption) (by omega) ?_
    rw [e0]
    refine J_cmp S_X9_value rfl (fun c30 => ?_) (fun c30 => False.elim (c30 (nI_le hn (by omega))))
    refine J_ald S_X9_value rfl rfl ?_
    refine J_ild S_X9_value rfl rfl ?_
    refine J_ild S_X9_value rfl rfl ?_
    refine J_CSx S_X9_value rfl rfl (by simp) (hco) rfl ?_
    refine J_ild S_X9_value rfl rfl ?_
    refine J_CVx S_X9_value rfl rfl (by assumption) (by omega) (by simp) (hva) rfl ?_
    refine J_ist S_X9_value rfl rfl ?_
    refine J_ild S_X9_value rfl rfl ?_
    refine J_C S_X9_value rfl ?_
    refine J_cmp S_X9_value rfl (fun c52 => False.elim (c52 c)) (fun c52 => ?_)
    refine J_C S_X9_value rfl ?_
    refine J_goto S_X9_value rfl ?_
    refine J_retI S_X9_value rfl ?_
    exact ⟨rfl, rfl⟩
  · rw [if_neg (rg_nn (ht.resolve_left c) (by decide))]
    refine J_ald S_X9_value rfl rfl ?_
    refine J_getR S_X9_value rfl (o' := 4) (by assumption) (by omega) rfl ?_
    refine J_getR S_X9_value rfl (o' := 5) (by assumption) (by omega) rfl ?_
    refine J_getR S_X9_value rfl (o' := 6) (by assumption) (by omega) rfl ?_
    refine J_ast S_X9_value rfl rfl ?_
    refine J_ild S_X9_value rfl rfl ?_
    refine J_ild S_X9_value rfl rfl ?_
    refine J_CSx S_X9_value rfl rfl (by simp) (hcell) rfl ?_
    refine J_if S_X9_value rfl (fun c17 => False.elim (absurd c17 (by decide))) (fun c17 => ?_)
    refine J_ild S_X9_value rfl rfl ?_
    refine J_if S_X9_value rfl (fun c21 => False.elim (nI_pos (by omega) c21)) (fun c21 => ?_)
    refine J_ild S_X9_value rfl rfl ?_
    refine J_ald S_X9_value rfl rfl ?_
    refine J_getI S_X9_value rfl (by assumption) (by omega) ?_
    rw [e0]
    refine J_cmp S_X9_value rfl (fun c30 => ?_) (fun c30 => False.elim (c30 (nI_le hn (by omega))))
    refine J_ald S_X9_value rfl rfl ?_
    refine J_ild S_X9_value rfl rfl ?_
    refine J_ild S_X9_value rfl rfl ?_
    refine J_CSx S_X9_value rfl rfl (by simp) (hco) rfl ?_
    refine J_ild S_X9_value rfl rfl ?_
    refine J_CVx S_X9_value rfl rfl (by assumption) (by omega) (by simp) (hva) rfl ?_
    refine J_ist S_X9_value rfl rfl ?_
    refine J_ild S_X9_value rfl rfl ?_
    refine J_C S_X9_value rfl ?_
    refine J_cmp S_X9_value rfl (fun c52 => ?_) (fun c52 => False.elim (c c52))
    refine J_ild S_X9_value rfl rfl ?_
    refine J_retI S_X9_value rfl ?_
    exact ⟨rfl, rfl⟩
theorem X10_value_no (hI : IV (I 314)) {a b c : Int32} (h : ¬ ((0 ≤ a ∧ a ≤ 1) ∧ (0 ≤ b ∧ b ≤ 11) ∧ (0 ≤ c ∧ c ≤ I 314 0))) : mj_R D_X10_value [.inr (some 313), .inl a, .inl b, .inl c] (mj_w I) (mj_ex (some (.inl (-100000001))) I) := by
  have m0 := s_313
  refine mj_enter (by decide +kernel) (Nat.le_of_ble_eq_true rfl) ?_
  by_cases h1 : 0 ≤ a ∧ a ≤ 1
  · by_cases h2 : 0 ≤ b ∧ b ≤ 11
    · refine J_ild S_X10_value rfl rfl ?_
      refine J_C S_X10_value rfl ?_
      refine J_C S_X10_value rfl ?_
      refine J_CSx S_X10_value rfl rfl (by simp) (in_t h1) rfl ?_
      refine J_if S_X10_value rfl (fun c6 => False.elim (absurd c6 (by decide))) (fun c6 => ?_)
      refine J_ild S_X10_value rfl rfl ?_
      refine J_C S_X10_value rfl ?_
      refine J_C S_X10_value rfl ?_
      refine J_CSx S_X10_value rfl rfl (by simp) (in_t h2) rfl ?_
      refine J_if S_X10_value rfl (fun c16 => False.elim (absurd c16 (by decide))) (fun c16 => ?_)
      refine J_ald S_X10_value rfl rfl ?_
      refine J_ild S_X10_value rfl rfl ?_
      refine J_CVx S_X10_value rfl rfl (by assumption) (by omega) (by simp) (pl_f hI (fun h3 => h ⟨h1, h2, h3⟩)) rfl ?_
      refine J_if S_X10_value rfl (fun c24 => False.elim (c24 rfl)) (fun c24 => ?_)
      refine J_C S_X10_value rfl ?_
      refine J_retI S_X10_value rfl ?_
      exact ⟨rfl, rfl⟩
    · refine J_ild S_X10_value rfl rfl ?_
      refine J_C S_X10_value rfl ?_
      refine J_C S_X10_value rfl ?_
      refine J_CSx S_X10_value rfl rfl (by simp) (in_t h1) rfl ?_
      refine J_if S_X10_value rfl (fun c6 => False.elim (absurd c6 (by decide))) (fun c6 => ?_)
      refine J_ild S_X10_value rfl rfl ?_
      refine J_C S_X10_value rfl ?_
      refine J_C S_X10_value rfl ?_
      refine J_CSx S_X10_value rfl rfl (by simp) (in_f h2) rfl ?_
      refine J_if S_X10_value rfl (fun c16 => ?_) (fun c16 => False.elim (c16 rfl))
      refine J_C S_X10_value rfl ?_
      refine J_retI S_X10_value rfl ?_
      exact ⟨rfl, rfl⟩
  · refine J_ild S_X10_value rfl rfl ?_
    refine J_C S_X10_value rfl ?_
    refine J_C S_X10_value rfl ?_
    refine J_CSx S_X10_value rfl rfl (by simp) (in_f h1) rfl ?_
    refine J_if S_X10_value rfl (fun c6 => ?_) (fun c6 => False.elim (c6 rfl))
    refine J_C S_X10_value rfl ?_
    refine J_retI S_X10_value rfl ?_
    exact ⟨rfl, rfl⟩
theorem X10_value_ok (hI : IV (I 314)) {a b n : Nat} (ha : a ≤ 1) (hb : b ≤ 11) (hn : n ≤ tn (I 314 0)) : mj_R D_X10_value [.inr (some 313), .inl (nI a), .inl (nI b), .inl (nI n)] (mj_w I) (mj_px (fun r I2 => r = some (.inl (if tabv (I 314) (12 * a + b) n < 0 then -100000009 else tabv (I 314) (12 * a + b) n)) ∧ Ms I I2)) := by
  have m0 := s_313
  have m1 := s_317
  have hle := hI.1.2
  have q1 : 0 ≤ nI a ∧ nI a ≤ 1 := ⟨nI_pos' (by omega), nI_le (b := 1) ha (by decide)⟩
  have q2 : 0 ≤ nI b ∧ nI b ≤ 11 := ⟨nI_pos' (by omega), nI_le (b := 11) hb (by decide)⟩
  have q3 : 0 ≤ nI n ∧ nI n ≤ I 314 0 := ⟨nI_pos' (by omega), by rw [hI.1.1]; exact nI_le hn (by omega)⟩
  have hly := C_X10_lays (I := I) hI hn
  have et : ly (I 314) I 317 n 317 (12 * a + b) = tabv (I 314) (12 * a + b) n := ly_at (by omega) n
  have hms : Ms I (ly (I 314) I 317 n) := ⟨fun o _ h _ _ _ => ly_ne h n, by rw [ly_ne (by decide) n], by rw [ly_ne (by decide) n]⟩
  have ei : (12 : Int32) * nI a + nI b = nI (12 * a + b) := by rw [show (12 : Int32) = nI 12 from rfl, pk_mul, nI_add]
  refine mj_enter (by decide +kernel) (Nat.le_of_ble_eq_true rfl) ?_
  generalize tabv (I 314) (12 * a + b) n = t at *
  by_cases c : t < 0
  · rw [if_pos c]
    refine J_ild S_X10_value rfl rfl ?_
    refine J_C S_X10_value rfl ?_
    refine J_C S_X10_value rfl ?_
    refine J_CSx S_X10_value rfl rfl (by simp) (in_t q1) rfl ?_
    refine J_if S_X10_value rfl (fun c6 => False.elim (absurd c6 (by decide))) (fun c6 => ?_)
    refine J_ild S_X10_value rfl rfl ?_
    refine J_C S_X10_value rfl ?_
    refine J_C S_X10_value rfl ?_
    refine J_CSx S_X10_value rfl rfl (by simp) (in_t q2) rfl ?_
    refine J_if S_X10_value rfl (fun c16 => False.elim (absurd c16 (by decide))) (fun c16 => ?_)
    refine J_ald S_X10_value rfl rfl ?_
    refine J_ild S_X10_value rfl rfl ?_
    refine J_CVx S_X10_value rfl rfl (by assumption) (by omega) (by simp) (pl_t hI q3) rfl ?_
    refine J_if S_X10_value rfl (fun c24 => ?_) (fun c24 => False.elim (absurd c24 (by decide)))
    refine J_ald S_X10_value rfl rfl ?_
    refine J_ild S_X10_value rfl rfl ?_
    refine J_CVx S_X10_value rfl rfl (by assumption) (by omega) (by simp) (hly) rfl ?_
    refine J_ald S_X10_value rfl rfl ?_
    refine J_getR S_X10_value rfl (o' := 317) (by assumption) (by omega) rfl ?_
    refine J_C S_X10_value rfl ?_
    refine J_ild S_X10_value rfl rfl ?_
    refine J_bin S_X10_value rfl ?_
    refine J_ild S_X10_value rfl rfl ?_
    refine J_bin S_X10_value rfl ?_
    refine J_iald S_X10_value rfl (by assumption) (by omega) (j := 12 * a + b) ei (by omega) (by decide) ?_
    rw [et]
    refine J_ist S_X10_value rfl rfl ?_
    refine J_ild S_X10_value rfl rfl ?_
    refine J_if S_X10_value rfl (fun c50 => False.elim (Int32.not_lt.mpr c50 c)) (fun c50 => ?_)
    refine J_C S_X10_value rfl ?_
    refine J_goto S_X10_value rfl ?_
    refine J_retI S_X10_value rfl ?_
    exact ⟨_, rfl, rfl, hms⟩
  · rw [if_neg c]
    refine J_ild S_X10_value rfl rfl ?_
    refine J_C S_X10_value rfl ?_
    refine J_C S_X10_value rfl ?_
    refine J_CSx S_X10_value rfl rfl (by simp) (in_t q1) rfl ?_
    refine J_if S_X10_value rfl (fun c6 => False.elim (absurd c6 (by decide))) (fun c6 => ?_)
    refine J_ild S_X10_value rfl rfl ?_
    refine J_C S_X10_value rfl ?_
    refine J_C S_X10_value rfl ?_
    refine J_CSx S_X10_value rfl rfl (by simp) (in_t q2) rfl ?_
    refine J_if S_X10_value rfl (fun c16 => False.elim (absurd c16 (by decide))) (fun c16 => ?_)
    refine J_ald S_X10_value rfl rfl ?_
    refine J_ild S_X10_value rfl rfl ?_
    refine J_CVx S_X10_value rfl rfl (by assumption) (by omega) (by simp) (pl_t hI q3) rfl ?_
    refine J_if S_X10_value rfl (fun c24 => ?_) (fun c24 => False.elim (absurd c24 (by decide)))
    refine J_ald S_X10_value rfl rfl ?_
    refine J_ild S_X10_value rfl rfl ?_
    refine J_CVx S_X10_value rfl rfl (by assumption) (by omega) (by simp) (hly) rfl ?_
    refine J_ald S_X10_value rfl rfl ?_
    refine J_getR S_X10_value rfl (o' := 317) (by assumption) (by omega) rfl ?_
    refine J_C S_X10_value rfl ?_
    refine J_ild S_X10_value rfl rfl ?_
    refine J_bin S_X10_value rfl ?_
    refine J_ild S_X10_value rfl rfl ?_
    refine J_bin S_X10_value rfl ?_
    refine J_iald S_X10_value rfl (by assumption) (by omega) (j := 12 * a + b) ei (by omega) (by decide) ?_
    rw [et]
    refine J_ist S_X10_value rfl rfl ?_
    refine J_ild S_X10_value rfl rfl ?_
    refine J_if S_X10_value rfl (fun c50 => ?_) (fun c50 => False.elim (c50 (Int32.not_lt.mp c)))
    refine J_ild S_X10_value rfl rfl ?_
    refine J_retI S_X10_value rfl ?_
    exact ⟨_, rfl, rfl, hms⟩
theorem P_value (h : Rl I) (a b c : Int32) : PRI D_X9_value D_X10_value [.inl a, .inl b, .inl c] I := by
  have hRl := h
  obtain ⟨o, n, L, hc, h2, h4⟩ := h
  have m0 := s_0
  have m1 := s_1
  have m2 := s_2
  have m4 := mj_S4.1
  have m5 := mj_B5.1
  have m6 : mj_sh 6 = (2, 3) := mj_B5.2.1
  have m52 := s_52
  have m294 := s_294
  have hR : RB I 5 (I 314) := hc.1.1
  have hI : IV (I 314) := hc.1.2.1
  have hZ : ZB (I 314) := hc.1.2.2.1
  have hn : n ≤ 5 := hc.2.1.2.2.2.1
  have hle : tn (I 314 0) ≤ 200 := hI.1.2
  by_cases hno : (0 ≤ a ∧ a ≤ 1) ∧ (0 ≤ b ∧ b ≤ 11) ∧ (0 ≤ c ∧ c ≤ I 314 0)
  · obtain ⟨q1, q2, q3⟩ := hno
    obtain ⟨ja, hja, rfl⟩ := i_rng (n := 1) (by decide) q1.1 q1.2
    obtain ⟨jb, hjb, rfl⟩ := i_rng (n := 11) (by decide) q2.1 q2.2
    obtain ⟨jc, hjc, rfl⟩ := pl_n hI q3
    refine PR_look hRl (R_ex (X9_value_ok hR hI hja hjb hjc) ⟨rfl, sc_rf⟩) (fun I1 hu => ?_)
    have e := hu 314 (by decide)
    have g := X10_value_ok (I := I1) (by rw [e]; exact hI) hja hjb (n := jc) (by rw [e]; exact hjc)
    rw [e] at g
    exact g
  · exact PR_no hRl (X9_value_no hR hno) (fun I1 hu => X10_value_no (by rw [hu 314 (by decide)]; exact hI) (by rw [hu 314 (by decide)]; exact hno))
/-! change -/
theorem sub1 {v : mv} (hI : IV v) {a : Int32} : (0 ≤ a ∧ a ≤ v 0 - 1) ↔ (0 ≤ a ∧ a < v 0) := by
  have h0 := hI.1
  rw [h0.1]
  have hle := h0.2
  generalize tn (v 0) = N at *
  have e : (nI N - 1).toInt = (N : Int) - 1 := by
    rw [show (1 : Int32) = nI 1 from rfl]
    exact pk_sub_toInt (by omega) (by decide)
  rw [fa_le a (nI N - 1), e, fa_lt a (nI N), nI_toInt (by omega)]
  exact ⟨fun h => ⟨h.1, by have := h.2; omega⟩, fun h => ⟨h.1, by have := h.2; omega⟩⟩
theorem X9_change_no {w : mv} (hR : RB I 5 w) {a b : Int32} (h : ¬ ((0 ≤ a ∧ a < w 0) ∧ (0 ≤ b ∧ b ≤ 3))) : mj_R D_X9_change [.inr (some 0), .inl a, .inl b] (mj_w I) (mj_ex (some (.inl (-100000001))) I) := by
  have m0 := s_0
  have m4 := mj_S4.1
  have m5 := mj_B5.1
  have m6 : mj_sh 6 = (2, 3) := mj_B5.2.1
  have e0 : I 6 2 = w 0 := hR.1
  refine mj_enter (by decide +kernel) (Nat.le_of_ble_eq_true rfl) ?_
  refine J_ald S_X9_change rfl rfl ?_
  refine J_getR S_X9_change rfl (o' := 4) (by assumption) (by omega) rfl ?_
  refine J_getR S_X9_change rfl (o' := 5) (by assumption) (by omega) rfl ?_
  refine J_getR S_X9_change rfl (o' := 6) (by assumption) (by omega) rfl ?_
  refine J_ast S_X9_change rfl rfl ?_
  refine J_ild S_X9_change rfl rfl ?_
  refine J_if S_X9_change rfl (fun c12 => ?_) (fun c12 => ?_)
  · refine J_C S_X9_change rfl ?_
    refine J_retI S_X9_change rfl ?_
    exact ⟨rfl, rfl⟩
  · refine J_ild S_X9_change rfl rfl ?_
    refine J_ald S_X9_change rfl rfl ?_
    refine J_getI S_X9_change rfl (by assumption) (by omega) ?_
    rw [e0]
    refine J_cmp S_X9_change rfl (fun c20 => ?_) (fun c20 => ?_)
    · refine J_C S_X9_change rfl ?_
      refine J_retI S_X9_change rfl ?_
      exact ⟨rfl, rfl⟩
    · refine J_ild S_X9_change rfl rfl ?_
      refine J_if S_X9_change rfl (fun c24 => ?_) (fun c24 => ?_)
      · refine J_C S_X9_change rfl ?_
        refine J_retI S_X9_change rfl ?_
        exact ⟨rfl, rfl⟩
      · refine J_ild S_X9_change rfl rfl ?_
        refine J_C S_X9_change rfl ?_
        refine J_cmp S_X9_change rfl (fun c29 => ?_) (fun c29 => ?_)
        · exact absurd ⟨⟨Int32.not_lt.mp c12, Int32.not_le.mp c20⟩, Int32.not_lt.mp c24, c29⟩ h
        · refine J_C S_X9_change rfl ?_
          refine J_retI S_X9_change rfl ?_
          exact ⟨rfl, rfl⟩
def chV (v : mv) (j b : Nat) : Int32 := if b = 3 then nI (msk (fun k => ex v k && cs v k (cl v j)) 8) else v (15 + 3 * j + b)
theorem cl_dm {v : mv} (hI : IV v) {j : Nat} (hj : j < tn (v 0)) : nI (cl v j) / 12 = v (15 + 3 * j) ∧ nI (cl v j) - nI (cl v j) / 12 * 12 = v (16 + 3 * j) := by
  obtain ⟨h1, h2, -⟩ := hI.2.2.2.2.1 j hj
  have l1 := h1.2
  have l2 := h2.2
  have ec : cl v j = 12 * tn (v (15 + 3 * j)) + tn (v (16 + 3 * j)) := rfl
  have hb := hI.cl_lt hj
  refine ⟨?_, ?_⟩
  · rw [show (12 : Int32) = nI 12 from rfl, pk_div (by omega) (by decide) (by decide), show cl v j / 12 = tn (v (15 + 3 * j)) by omega]
    exact h1.1.symm
  · rw [show (12 : Int32) = nI 12 from rfl, pk_rem (by omega) (by decide) (by decide), show cl v j % 12 = tn (v (16 + 3 * j)) by omega]
    exact h2.1.symm
theorem X9_change_ok {w : mv} (hR : RB I 5 w) (hI : IV w) {j b : Nat} (hj : j < tn (w 0)) (hb : b ≤ 3) : mj_R D_X9_change [.inr (some 0), .inl (nI j), .inl (nI b)] (mj_w I) (mj_ex (some (.inl (chV w j b))) I) := by
  have m0 := s_0
  have m4 := mj_S4.1
  have m5 := mj_B5.1
  have m6 : mj_sh 6 = (2, 3) := mj_B5.2.1
  have e0 : I 6 2 = nI (tn (w 0)) := by rw [← hI.1.1]; exact hR.1
  have hle := hI.1.2
  obtain ⟨e1, e2⟩ := hR.2.2.2.1 j hj
  obtain ⟨d1, d2⟩ := cl_dm hI hj
  have hce := C_X2_cell (I := I) mj_B5 (j := j) (by omega)
  rw [e1] at hce
  have hnv := C_X2_newValue (I := I) mj_B5 (j := j) (by omega)
  rw [e2] at hnv
  have hcb := C_X0_concernedBy (I := I) mj_B5 hR hI (hI.cl_lt hj)
  refine mj_enter (by decide +kernel) (Nat.le_of_ble_eq_true rfl) ?_
  unfold chV
  rcases (show b = 0 ∨ b = 1 ∨ b = 2 ∨ b = 3 by omega) with rfl | rfl | rfl | rfl
  · refine J_ald S_X9_change rfl rfl ?_
    refine J_getR S_X9_change rfl (o' := 4) (by assumption) (by omega) rfl ?_
    refine J_getR S_X9_change rfl (o' := 5) (by assumption) (by omega) rfl ?_
    refine J_getR S_X9_change rfl (o' := 6) (by assumption) (by omega) rfl ?_
    refine J_ast S_X9_change rfl rfl ?_
    refine J_ild S_X9_change rfl rfl ?_
    refine J_if S_X9_change rfl (fun c12 => False.elim (nI_pos (by omega) c12)) (fun c12 => ?_)
    refine J_ild S_X9_change rfl rfl ?_
    refine J_ald S_X9_change rfl rfl ?_
    refine J_getI S_X9_change rfl (by assumption) (by omega) ?_
    rw [e0]
    refine J_cmp S_X9_change rfl (fun c20 => False.elim (nI_ge hj (by omega) c20)) (fun c20 => ?_)
    refine J_ild S_X9_change rfl rfl ?_
    refine J_if S_X9_change rfl (fun c24 => False.elim (absurd c24 (by decide))) (fun c24 => ?_)
    refine J_ild S_X9_change rfl rfl ?_
    refine J_C S_X9_change rfl ?_
    refine J_cmp S_X9_change rfl (fun c29 => ?_) (fun c29 => False.elim (c29 (by decide)))
    refine J_ald S_X9_change rfl rfl ?_
    refine J_ild S_X9_change rfl rfl ?_
    refine J_CVx S_X9_change rfl rfl (by assumption) (by omega) (by simp) (hce) rfl ?_
    refine J_ist S_X9_change rfl rfl ?_
    refine J_ild S_X9_change rfl rfl ?_
    refine J_sw S_X9_change rfl ⟨fun _ => ?_, fun c => False.elim (by revert c; decide)⟩
    refine J_ild S_X9_change rfl rfl ?_
    refine J_C S_X9_change rfl ?_
    refine J_div S_X9_change rfl (by decide) ?_
    refine J_retI S_X9_change rfl ?_
    rw [d1, if_neg (by decide)]; exact ⟨rfl, rfl⟩
  · refine J_ald S_X9_change rfl rfl ?_
    refine J_getR S_X9_change rfl (o' := 4) (by assumption) (by omega) rfl ?_
    refine J_getR S_X9_change rfl (o' := 5) (by assumption) (by omega) rfl ?_
    refine J_getR S_X9_change rfl (o' := 6) (by assumption) (by omega) rfl ?_
    refine J_ast S_X9_change rfl rfl ?_
    refine J_ild S_X9_change rfl rfl ?_
    refine J_if S_X9_change rfl (fun c12 => False.elim (nI_pos (by omega) c12)) (fun c12 => ?_)
    refine J_ild S_X9_change rfl rfl ?_
    refine J_ald S_X9_change rfl rfl ?_
    refine J_getI S_X9_change rfl (by assumption) (by omega) ?_
    rw [e0]
    refine J_cmp S_X9_change rfl (fun c20 => False.elim (nI_ge hj (by omega) c20)) (fun c20 => ?_)
    refine J_ild S_X9_change rfl rfl ?_
    refine J_if S_X9_change rfl (fun c24 => False.elim (absurd c24 (by decide))) (fun c24 => ?_)
    refine J_ild S_X9_change rfl rfl ?_
    refine J_C S_X9_change rfl ?_
    refine J_cmp S_X9_change rfl (fun c29 => ?_) (fun c29 => False.elim (c29 (by decide)))
    refine J_ald S_X9_change rfl rfl ?_
    refine J_ild S_X9_change rfl rfl ?_
    refine J_CVx S_X9_change rfl rfl (by assumption) (by omega) (by simp) (hce) rfl ?_
    refine J_ist S_X9_change rfl rfl ?_
    refine J_ild S_X9_change rfl rfl ?_
    refine J_sw S_X9_change rfl ⟨fun c => False.elim (by revert c; decide), fun _ => ⟨fun _ => ?_, fun c => False.elim (by revert c; decide)⟩⟩
    refine J_ild S_X9_change rfl rfl ?_
    refine J_C S_X9_change rfl ?_
    refine J_div S_X9_change rfl (by decide) ?_
    refine J_retI S_X9_change rfl ?_
    rw [d2, if_neg (by decide), show 15 + 3 * j + 1 = 16 + 3 * j by omega]; exact ⟨rfl, rfl⟩
  · refine J_ald S_X9_change rfl rfl ?_
    refine J_getR S_X9_change rfl (o' := 4) (by assumption) (by omega) rfl ?_
    refine J_getR S_X9_change rfl (o' := 5) (by assumption) (by omega) rfl ?_
    refine J_getR S_X9_change rfl (o' := 6) (by assumption) (by omega) rfl ?_
    refine J_ast S_X9_change rfl rfl ?_
    refine J_ild S_X9_change rfl rfl ?_
    refine J_if S_X9_change rfl (fun c12 => False.elim (nI_pos (by omega) c12)) (fun c12 => ?_)
    refine J_ild S_X9_change rfl rfl ?_
    refine J_ald S_X9_change rfl rfl ?_
    refine J_getI S_X9_change rfl (by assumption) (by omega) ?_
    rw [e0]
    refine J_cmp S_X9_change rfl (fun c20 => False.elim (nI_ge hj (by omega) c20)) (fun c20 => ?_)
    refine J_ild S_X9_change rfl rfl ?_
    refine J_if S_X9_change rfl (fun c24 => False.elim (absurd c24 (by decide))) (fun c24 => ?_)
    refine J_ild S_X9_change rfl rfl ?_
    refine J_C S_X9_change rfl ?_
    refine J_cmp S_X9_change rfl (fun c29 => ?_) (fun c29 => False.elim (c29 (by decide)))
    refine J_ald S_X9_change rfl rfl ?_
    refine J_ild S_X9_change rfl rfl ?_
    refine J_CVx S_X9_change rfl rfl (by assumption) (by omega) (by simp) (hce) rfl ?_
    refine J_ist S_X9_change rfl rfl ?_
    refine J_ild S_X9_change rfl rfl ?_
    refine J_sw S_X9_change rfl ⟨fun c => False.elim (by revert c; decide), fun _ => ⟨fun c => False.elim (by revert c; decide), fun _ => ⟨fun _ => ?_, fun c => False.elim (by revert c; decide)⟩⟩⟩
    refine J_ald S_X9_change rfl rfl ?_
    refine J_ild S_X9_change rfl rfl ?_
    refine J_CVx S_X9_change rfl rfl (by assumption) (by omega) (by simp) (hnv) rfl ?_
    refine J_retI S_X9_change rfl ?_
    rw [if_neg (by decide), show 15 + 3 * j + 2 = 17 + 3 * j by omega]; exact ⟨rfl, rfl⟩
  · refine J_ald S_X9_change rfl rfl ?_
    refine J_getR S_X9_change rfl (o' := 4) (by assumption) (by omega) rfl ?_
    refine J_getR S_X9_change rfl (o' := 5) (by assumption) (by omega) rfl ?_
    refine J_getR S_X9_change rfl (o' := 6) (by assumption) (by omega) rfl ?_
    refine J_ast S_X9_change rfl rfl ?_
    refine J_ild S_X9_change rfl rfl ?_
    refine J_if S_X9_change rfl (fun c12 => False.elim (nI_pos (by omega) c12)) (fun c12 => ?_)
    refine J_ild S_X9_change rfl rfl ?_
    refine J_ald S_X9_change rfl rfl ?_
    refine J_getI S_X9_change rfl (by assumption) (by omega) ?_
    rw [e0]
    refine J_cmp S_X9_change rfl (fun c20 => False.elim (nI_ge hj (by omega) c20)) (fun c20 => ?_)
    refine J_ild S_X9_change rfl rfl ?_
    refine J_if S_X9_change rfl (fun c24 => False.elim (absurd c24 (by decide))) (fun c24 => ?_)
    refine J_ild S_X9_change rfl rfl ?_
    refine J_C S_X9_change rfl ?_
    refine J_cmp S_X9_change rfl (fun c29 => ?_) (fun c29 => False.elim (c29 (by decide)))
    refine J_ald S_X9_change rfl rfl ?_
    refine J_ild S_X9_change rfl rfl ?_
    refine J_CVx S_X9_change rfl rfl (by assumption) (by omega) (by simp) (hce) rfl ?_
    refine J_ist S_X9_change rfl rfl ?_
    refine J_ild S_X9_change rfl rfl ?_
    refine J_sw S_X9_change rfl ⟨fun c => False.elim (by revert c; decide), fun _ => ⟨fun c => False.elim (by revert c; decide), fun _ => ⟨fun c => False.elim (by revert c; decide), fun _ => ?_⟩⟩⟩
    refine J_ald S_X9_change rfl rfl ?_
    refine J_getR S_X9_change rfl (o' := 4) (by assumption) (by omega) rfl ?_
    refine J_getR S_X9_change rfl (o' := 5) (by assumption) (by omega) rfl ?_
    refine J_ild S_X9_change rfl rfl ?_
    refine J_CVx S_X9_change rfl rfl (by assumption) (by omega) (by simp) (hcb) rfl ?_
    refine J_retI S_X9_change rfl ?_
    exact ⟨rfl, rfl⟩
theorem X10_change_no (hI : IV (I 314)) {a b : Int32} (h : ¬ ((0 ≤ a ∧ a < I 314 0) ∧ (0 ≤ b ∧ b ≤ 3))) : mj_R D_X10_change [.inr (some 313), .inl a, .inl b] (mj_w I) (mj_ex (some (.inl (-100000001))) I) := by
  have m0 := s_313
  have m1 := s_314
  refine mj_enter (by decide +kernel) (Nat.le_of_ble_eq_true rfl) ?_
  by_cases h1 : 0 ≤ a ∧ a ≤ I 314 0 - 1
  · refine J_ild S_X10_change rfl rfl ?_
    refine J_C S_X10_change rfl ?_
    refine J_ald S_X10_change rfl rfl ?_
    refine J_getR S_X10_change rfl (o' := 314) (by assumption) (by omega) rfl ?_
    refine J_C S_X10_change rfl ?_
    refine J_iald S_X10_change rfl (by assumption) (by omega) (j := 0) rfl (by omega) (by decide) ?_
    refine J_C S_X10_change rfl ?_
    refine J_bin S_X10_change rfl ?_
    refine J_CSx S_X10_change rfl rfl (by simp) (in_t h1) rfl ?_
    refine J_if S_X10_change rfl (fun c13 => False.elim (absurd c13 (by decide))) (fun c13 => ?_)
    refine J_ild S_X10_change rfl rfl ?_
    refine J_C S_X10_change rfl ?_
    refine J_C S_X10_change rfl ?_
    refine J_CSx S_X10_change rfl rfl (by simp) (in_f (fun h2 => h ⟨(sub1 hI).mp h1, h2⟩)) rfl ?_
    refine J_if S_X10_change rfl (fun c22 => False.elim (c22 rfl)) (fun c22 => ?_)
    refine J_C S_X10_change rfl ?_
    refine J_retI S_X10_change rfl ?_
    exact ⟨rfl, rfl⟩
  · refine J_ild S_X10_change rfl rfl ?_
    refine J_C S_X10_change rfl ?_
    refine J_ald S_X10_change rfl rfl ?_
    refine J_getR S_X10_change rfl (o' := 314) (by assumption) (by omega) rfl ?_
    refine J_C S_X10_change rfl ?_
    refine J_iald S_X10_change rfl (by assumption) (by omega) (j := 0) rfl (by omega) (by decide) ?_
    refine J_C S_X10_change rfl ?_
    refine J_bin S_X10_change rfl ?_
    refine J_CSx S_X10_change rfl rfl (by simp) (in_f h1) rfl ?_
    refine J_if S_X10_change rfl (fun c13 => ?_) (fun c13 => False.elim (c13 rfl))
    refine J_C S_X10_change rfl ?_
    refine J_retI S_X10_change rfl ?_
    exact ⟨rfl, rfl⟩
theorem X10_change_ok (hI : IV (I 314)) {j b : Nat} (hj : j < tn (I 314 0)) (hb : b ≤ 3) : mj_R D_X10_change [.inr (some 313), .inl (nI j), .inl (nI b)] (mj_w I) (mj_ex (some (.inl (chV (I 314) j b))) I) := by
  have m0 := s_313
  have m1 := s_314
  have hle := hI.1.2
  have h1 : 0 ≤ nI j ∧ nI j ≤ I 314 0 - 1 := (sub1 hI).mpr ⟨nI_pos' (by omega), by rw [hI.1.1]; exact nI_lt hj (by omega)⟩
  have h2 : 0 ≤ nI b ∧ nI b ≤ 3 := ⟨nI_pos' (by omega), nI_le (b := 3) hb (by decide)⟩
  have hcn := C_X10_concerned (I := I) hI hj
  have hcc := C_X10_c (I := I) (k := j) (f := b)
  refine mj_enter (by decide +kernel) (Nat.le_of_ble_eq_true rfl) ?_
  unfold chV
  by_cases h3 : b = 3
  · subst h3
    rw [if_pos rfl]
    refine J_ild S_X10_change rfl rfl ?_
    refine J_C S_X10_change rfl ?_
    refine J_ald S_X10_change rfl rfl ?_
    refine J_getR S_X10_change rfl (o' := 314) (by assumption) (by omega) rfl ?_
    refine J_C S_X10_change rfl ?_
    refine J_iald S_X10_change rfl (by assumption) (by omega) (j := 0) rfl (by omega) (by decide) ?_
    refine J_C S_X10_change rfl ?_
    refine J_bin S_X10_change rfl ?_
    refine J_CSx S_X10_change rfl rfl (by simp) (in_t h1) rfl ?_
    refine J_if S_X10_change rfl (fun c13 => False.elim (absurd c13 (by decide))) (fun c13 => ?_)
    refine J_ild S_X10_change rfl rfl ?_
    refine J_C S_X10_change rfl ?_
    refine J_C S_X10_change rfl ?_
    refine J_CSx S_X10_change rfl rfl (by simp) (in_t h2) rfl ?_
    refine J_if S_X10_change rfl (fun c22 => ?_) (fun c22 => False.elim (absurd c22 (by decide)))
    refine J_ild S_X10_change rfl rfl ?_
    refine J_C S_X10_change rfl ?_
    refine J_cmp S_X10_change rfl (fun c30 => False.elim (c30 rfl)) (fun c30 => ?_)
    refine J_ald S_X10_change rfl rfl ?_
    refine J_ild S_X10_change rfl rfl ?_
    refine J_CVx S_X10_change rfl rfl (by assumption) (by omega) (by simp) (hcn) rfl ?_
    refine J_goto S_X10_change rfl ?_
    refine J_retI S_X10_change rfl ?_
    exact ⟨rfl, rfl⟩
  · rw [if_neg h3]
    refine J_ild S_X10_change rfl rfl ?_
    refine J_C S_X10_change rfl ?_
    refine J_ald S_X10_change rfl rfl ?_
    refine J_getR S_X10_change rfl (o' := 314) (by assumption) (by omega) rfl ?_
    refine J_C S_X10_change rfl ?_
    refine J_iald S_X10_change rfl (by assumption) (by omega) (j := 0) rfl (by omega) (by decide) ?_
    refine J_C S_X10_change rfl ?_
    refine J_bin S_X10_change rfl ?_
    refine J_CSx S_X10_change rfl rfl (by simp) (in_t h1) rfl ?_
    refine J_if S_X10_change rfl (fun c13 => False.elim (absurd c13 (by decide))) (fun c13 => ?_)
    refine J_ild S_X10_change rfl rfl ?_
    refine J_C S_X10_change rfl ?_
    refine J_C S_X10_change rfl ?_
    refine J_CSx S_X10_change rfl rfl (by simp) (in_t h2) rfl ?_
    refine J_if S_X10_change rfl (fun c22 => ?_) (fun c22 => False.elim (absurd c22 (by decide)))
    refine J_ild S_X10_change rfl rfl ?_
    refine J_C S_X10_change rfl ?_
    refine J_cmp S_X10_change rfl (fun c30 => ?_) (fun c30 => False.elim (h3 ((nI_eq (b := 3) (by omega) (by decide)).mp c30)))
    refine J_ald S_X10_change rfl rfl ?_
    refine J_getR S_X10_change rfl (o' := 314) (by assumption) (by omega) rfl ?_
    refine J_ild S_X10_change rfl rfl ?_
    refine J_ild S_X10_change rfl rfl ?_
    refine J_CSx S_X10_change rfl rfl (by simp) (hcc) rfl ?_
    refine J_iald S_X10_change rfl (by assumption) (by omega) (j := 15 + 3 * j + b) rfl (by omega) (by decide) ?_
    refine J_retI S_X10_change rfl ?_
    exact ⟨rfl, rfl⟩
theorem P_change (h : Rl I) (a b : Int32) : PRI D_X9_change D_X10_change [.inl a, .inl b] I := by
  have hRl := h
  obtain ⟨o, n, L, hc, h2, h4⟩ := h
  have m0 := s_0
  have m1 := s_1
  have m2 := s_2
  have m4 := mj_S4.1
  have m5 := mj_B5.1
  have m6 : mj_sh 6 = (2, 3) := mj_B5.2.1
  have m52 := s_52
  have m294 := s_294
  have hR : RB I 5 (I 314) := hc.1.1
  have hI : IV (I 314) := hc.1.2.1
  have hZ : ZB (I 314) := hc.1.2.2.1
  have hn : n ≤ 5 := hc.2.1.2.2.2.1
  have hle : tn (I 314 0) ≤ 200 := hI.1.2
  by_cases hno : (0 ≤ a ∧ a < I 314 0) ∧ (0 ≤ b ∧ b ≤ 3)
  · obtain ⟨q1, q2⟩ := hno
    obtain ⟨ja, hja, rfl⟩ := pl_n hI ⟨q1.1, Int32.le_of_lt q1.2⟩
    obtain ⟨jb, hjb, rfl⟩ := i_rng (n := 3) (by decide) q2.1 q2.2
    have hj : ja < tn (I 314 0) := by
      have g := q1.2
      rw [hI.1.1] at g
      exact (nI_ltI (by omega) (by omega)).mp g
    refine PR_no hRl (X9_change_ok hR hI hj hjb) (fun I1 hu => ?_)
    have e := hu 314 (by decide)
    have g := X10_change_ok (I := I1) (by rw [e]; exact hI) (j := ja) (by rw [e]; exact hj) hjb
    rw [e] at g
    exact g
  · exact PR_no hRl (X9_change_no hR hno) (fun I1 hu => X10_change_no (by rw [hu 314 (by decide)]; exact hI) (by rw [hu 314 (by decide)]; exact hno))
/-! kept, ask -/
theorem sc_rp {I1 : mj_I} (h : ∀ o, o ≠ 296 → o ≠ 297 → I1 o = I o) : SC I I1 := ⟨fun q g1 _ => h q (by omega) (by omega), fun q g => h q (by omega) (by omega)⟩
theorem X9_kept_no {w : mv} (hR : RB I 5 w) (hI : IV w) {a : Int32} (h : isV w a = false) : mj_R D_X9_kept [.inr (some 0), .inl a] (mj_w I) (mj_ex (some (.inl (-100000001))) I) := by
  have m0 := s_0
  have m4 := mj_S4.1
  have m5 := mj_B5.1
  refine mj_enter (by decide +kernel) (Nat.le_of_ble_eq_true rfl) ?_
  refine J_ald S_X9_kept rfl rfl ?_
  refine J_getR S_X9_kept rfl (o' := 4) (by assumption) (by omega) rfl ?_
  refine J_getR S_X9_kept rfl (o' := 5) (by assumption) (by omega) rfl ?_
  refine J_ild S_X9_kept rfl rfl ?_
  refine J_CVx S_X9_kept rfl rfl (by assumption) (by omega) (by simp) (Z_find_n hR hI h) rfl ?_
  refine J_ast S_X9_kept rfl rfl ?_
  refine J_ald S_X9_kept rfl rfl ?_
  refine J_nnN S_X9_kept rfl ?_
  refine J_C S_X9_kept rfl ?_
  refine J_retI S_X9_kept rfl ?_
  exact ⟨rfl, rfl⟩
theorem X9_kept_ill {w : mv} (hR : RB I 5 w) (hI : IV w) {k : Nat} (hk : k < 8) (he : vk w k 4 = 1) (h : vk w k 5 = 1) : mj_R D_X9_kept [.inr (some 0), .inl (nI k)] (mj_w I) (mj_ex (some (.inl (-100000002))) I) := by
  have m0 := s_0
  have m4 := mj_S4.1
  have m5 := mj_B5.1
  have mv := vw_sh hk
  have e7 : I (5 + 7 + k) 7 = 1 := (((hR.2.2.2.2 k hk).2.2 he).2.2.2.2.2.2.1).trans h
  refine mj_enter (by decide +kernel) (Nat.le_of_ble_eq_true rfl) ?_
  refine J_ald S_X9_kept rfl rfl ?_
  refine J_getR S_X9_kept rfl (o' := 4) (by assumption) (by omega) rfl ?_
  refine J_getR S_X9_kept rfl (o' := 5) (by assumption) (by omega) rfl ?_
  refine J_ild S_X9_kept rfl rfl ?_
  refine J_CVx S_X9_kept rfl rfl (by assumption) (by omega) (by simp) (Z_find_y hR hI hk he) rfl ?_
  refine J_ast S_X9_kept rfl rfl ?_
  refine J_ald S_X9_kept rfl rfl ?_
  refine J_nnS S_X9_kept rfl ?_
  refine J_ald S_X9_kept rfl rfl ?_
  refine J_getI S_X9_kept rfl (by assumption) (by omega) ?_
  rw [e7]
  refine J_if S_X9_kept rfl (fun c23 => False.elim (absurd c23 (by decide))) (fun c23 => ?_)
  refine J_C S_X9_kept rfl ?_
  refine J_retI S_X9_kept rfl ?_
  exact ⟨rfl, rfl⟩
theorem X9_kept_ok {w : mv} (hR : RB I 5 w) (hI : IV w) {k : Nat} (hk : k < 8) (he : vk w k 4 = 1) (h : vk w k 5 = 0) : mj_R D_X9_kept [.inr (some 0), .inl (nI k)] (mj_w I) (mj_px (fun r I' => r = some (.inl (aq w (tn (vk w k 6)) k)) ∧ SC I I')) := by
  have m0 := s_0
  have m4 := mj_S4.1
  have m5 := mj_B5.1
  have m294 := s_294
  have mv := vw_sh hk
  have e7 : I (5 + 7 + k) 7 = 0 := (((hR.2.2.2.2 k hk).2.2 he).2.2.2.2.2.2.1).trans h
  have w6 := (hI.wv hk he).2.2.2.2.2.2.2.2.2.2.1
  have e8 : I (5 + 7 + k) 8 = nI (tn (vk w k 6)) := (((hR.2.2.2.2 k hk).2.2 he).2.2.2.2.2.2.2.1).trans w6.1
  have hab := C_X4_answerByTables (I := I) mj_B5 hR hI (by omega) hk he w6.2
  refine mj_enter (by decide +kernel) (Nat.le_of_ble_eq_true rfl) ?_
  refine J_ald S_X9_kept rfl rfl ?_
  refine J_getR S_X9_kept rfl (o' := 4) (by assumption) (by omega) rfl ?_
  refine J_getR S_X9_kept rfl (o' := 5) (by assumption) (by omega) rfl ?_
  refine J_ild S_X9_kept rfl rfl ?_
  refine J_CVx S_X9_kept rfl rfl (by assumption) (by omega) (by simp) (Z_find_y hR hI hk he) rfl ?_
  refine J_ast S_X9_kept rfl rfl ?_
  refine J_ald S_X9_kept rfl rfl ?_
  refine J_nnS S_X9_kept rfl ?_
  refine J_ald S_X9_kept rfl rfl ?_
  refine J_getI S_X9_kept rfl (by assumption) (by omega) ?_
  rw [e7]
  refine J_if S_X9_kept rfl (fun c23 => ?_) (fun c23 => False.elim (c23 rfl))
  refine J_ald S_X9_kept rfl rfl ?_
  refine J_getR S_X9_kept rfl (o' := 294) (by assumption) (by omega) rfl ?_
  refine J_ald S_X9_kept rfl rfl ?_
  refine J_getR S_X9_kept rfl (o' := 4) (by assumption) (by omega) rfl ?_
  refine J_getR S_X9_kept rfl (o' := 5) (by assumption) (by omega) rfl ?_
  refine J_ild S_X9_kept rfl rfl ?_
  refine J_ald S_X9_kept rfl rfl ?_
  refine J_getI S_X9_kept rfl (by assumption) (by omega) ?_
  rw [e8]
  refine J_CV S_X9_kept rfl rfl (by assumption) (by omega) (by simp) (hab) ?_
  rintro _ _ ⟨I2, rfl, rfl, g⟩
  refine J_retI S_X9_kept rfl ?_
  exact ⟨I2, rfl, rfl, sc_rp g⟩
theorem X10_kept_no (hI : IV (I 314)) {a : Int32} (h : isV (I 314) a = false) : mj_R D_X10_kept [.inr (some 313), .inl a] (mj_w I) (mj_ex (some (.inl (-100000001))) I) := by
  have m0 := s_313
  refine mj_enter (by decide +kernel) (Nat.le_of_ble_eq_true rfl) ?_
  refine J_ald S_X10_kept rfl rfl ?_
  refine J_ild S_X10_kept rfl rfl ?_
  refine J_CVx S_X10_kept rfl rfl (by assumption) (by omega) (by simp) (Y_isV hI rfl h) rfl ?_
  refine J_if S_X10_kept rfl (fun c5 => False.elim (c5 rfl)) (fun c5 => ?_)
  refine J_C S_X10_kept rfl ?_
  refine J_retI S_X10_kept rfl ?_
  exact ⟨rfl, rfl⟩
theorem X10_kept_ill (hI : IV (I 314)) {k : Nat} (hk : k < 8) (he : vk (I 314) k 4 = 1) (h : vk (I 314) k 5 = 1) : mj_R D_X10_kept [.inr (some 313), .inl (nI k)] (mj_w I) (mj_ex (some (.inl (-100000002))) I) := by
  have m0 := s_313
  have hv : isV (I 314) (nI k) = true := by rw [isV_nI hk]; exact ex_t he
  have hb := C_X10_isBankrupt (I := I) hk
  rw [decide_eq_true h] at hb
  refine mj_enter (by decide +kernel) (Nat.le_of_ble_eq_true rfl) ?_
  refine J_ald S_X10_kept rfl rfl ?_
  refine J_ild S_X10_kept rfl rfl ?_
  refine J_CVx S_X10_kept rfl rfl (by assumption) (by omega) (by simp) (Y_isV hI rfl hv) rfl ?_
  refine J_if S_X10_kept rfl (fun c5 => ?_) (fun c5 => False.elim (absurd c5 (by decide)))
  refine J_ald S_X10_kept rfl rfl ?_
  refine J_ild S_X10_kept rfl rfl ?_
  refine J_CVx S_X10_kept rfl rfl (by assumption) (by omega) (by simp) (hb) rfl ?_
  refine J_if S_X10_kept rfl (fun c16 => False.elim (absurd c16 (by decide))) (fun c16 => ?_)
  refine J_C S_X10_kept rfl ?_
  refine J_goto S_X10_kept rfl ?_
  refine J_retI S_X10_kept rfl ?_
  exact ⟨rfl, rfl⟩
theorem X10_kept_ok (hI : IV (I 314)) {k : Nat} (hk : k < 8) (he : vk (I 314) k 4 = 1) (h : vk (I 314) k 5 = 0) : mj_R D_X10_kept [.inr (some 313), .inl (nI k)] (mj_w I) (mj_px (fun r I' => r = some (.inl (aq (I 314) (tn (vk (I 314) k 6)) k)) ∧ Ms I I')) := by
  have m0 := s_313
  have m1 := s_314
  have hv : isV (I 314) (nI k) = true := by rw [isV_nI hk]; exact ex_t he
  have hb := C_X10_isBankrupt (I := I) hk
  rw [decide_eq_false (by rw [h]; decide)] at hb
  have w6 := (hI.wv hk he).2.2.2.2.2.2.2.2.2.2.1
  have e6 : I 314 (615 + 9 * k + 6) = nI (tn (vk (I 314) k 6)) := w6.1
  have haa := C_X10_answerAt (I := I) hI hk w6.2
  refine mj_enter (by decide +kernel) (Nat.le_of_ble_eq_true rfl) ?_
  refine J_ald S_X10_kept rfl rfl ?_
  refine J_ild S_X10_kept rfl rfl ?_
  refine J_CVx S_X10_kept rfl rfl (by assumption) (by omega) (by simp) (Y_isV hI rfl hv) rfl ?_
  refine J_if S_X10_kept rfl (fun c5 => ?_) (fun c5 => False.elim (absurd c5 (by decide)))
  refine J_ald S_X10_kept rfl rfl ?_
  refine J_ild S_X10_kept rfl rfl ?_
  refine J_CVx S_X10_kept rfl rfl (by assumption) (by omega) (by simp) (hb) rfl ?_
  refine J_if S_X10_kept rfl (fun c16 => ?_) (fun c16 => False.elim (c16 rfl))
  refine J_ald S_X10_kept rfl rfl ?_
  refine J_ild S_X10_kept rfl rfl ?_
  refine J_ald S_X10_kept rfl rfl ?_
  refine J_getR S_X10_kept rfl (o' := 314) (by assumption) (by omega) rfl ?_
  refine J_ild S_X10_kept rfl rfl ?_
  refine J_C S_X10_kept rfl ?_
  refine J_CSx S_X10_kept rfl rfl (by simp) (C_X10_v (k := k) (f := 6)) rfl ?_
  refine J_iald S_X10_kept rfl (by assumption) (by omega) (j := 615 + 9 * k + 6) rfl (by omega) (by decide) ?_
  rw [e6]
  refine J_CV S_X10_kept rfl rfl (by assumption) (by omega) (by simp) (haa) ?_
  rintro _ _ ⟨I2, rfl, rfl, g⟩
  refine J_retI S_X10_kept rfl ?_
  exact ⟨I2, rfl, rfl, g⟩
theorem P_kept (h : Rl I) (a : Int32) : PRI D_X9_kept D_X10_kept [.inl a] I := by
  have hRl := h
  obtain ⟨o, n, L, hc, h2, h4⟩ := h
  have m0 := s_0
  have m1 := s_1
  have m2 := s_2
  have m4 := mj_S4.1
  have m5 := mj_B5.1
  have m6 : mj_sh 6 = (2, 3) := mj_B5.2.1
  have m52 := s_52
  have m294 := s_294
  have hR : RB I 5 (I 314) := hc.1.1
  have hI : IV (I 314) := hc.1.2.1
  have hZ : ZB (I 314) := hc.1.2.2.1
  have hn : n ≤ 5 := hc.2.1.2.2.2.1
  have hle : tn (I 314 0) ≤ 200 := hI.1.2
  cases hv : isV (I 314) a
  · exact PR_no hRl (X9_kept_no hR hI hv) (fun I1 hu => X10_kept_no (by rw [hu 314 (by decide)]; exact hI) (by rw [hu 314 (by decide)]; exact hv))
  · obtain ⟨k, rfl, hk, he, -, h01⟩ := isV_y hI hv
    rcases h01 with h5 | h5
    · refine PR_look hRl (X9_kept_ok hR hI hk he h5) (fun I1 hu => ?_)
      have e := hu 314 (by decide)
      have g := X10_kept_ok (I := I1) (k := k) (by rw [e]; exact hI) hk (by rw [e]; exact he) (by rw [e]; exact h5)
      rw [e] at g
      exact g
    · exact PR_no hRl (X9_kept_ill hR hI hk he h5) (fun I1 hu => X10_kept_ill (by rw [hu 314 (by decide)]; exact hI) hk (by rw [hu 314 (by decide)]; exact he) (by rw [hu 314 (by decide)]; exact h5))
theorem X9_ask_no {w : mv} (hR : RB I 5 w) (hI : IV w) {a b c : Int32} (h : ¬ (isV w a = true ∧ (0 ≤ b ∧ b ≤ w 0) ∧ (c = 0 ∨ c = 1))) : mj_R D_X9_ask [.inr (some 0), .inl a, .inl b, .inl c] (mj_w I) (mj_ex (some (.inl (-100000001))) I) := by
  have m0 := s_0
  have m4 := mj_S4.1
  have m5 := mj_B5.1
  have m6 : mj_sh 6 = (2, 3) := mj_B5.2.1
  have e0 : I 6 2 = w 0 := hR.1
  refine mj_enter (by decide +kernel) (Nat.le_of_ble_eq_true rfl) ?_
  cases hv : isV w a
  · refine J_ald S_X9_ask rfl rfl ?_
    refine J_getR S_X9_ask rfl (o' := 4) (by assumption) (by omega) rfl ?_
    refine J_getR S_X9_ask rfl (o' := 5) (by assumption) (by omega) rfl ?_
    refine J_ast S_X9_ask rfl rfl ?_
    refine J_ald S_X9_ask rfl rfl ?_
    refine J_ild S_X9_ask rfl rfl ?_
    refine J_CVx S_X9_ask rfl rfl (by assumption) (by omega) (by simp) (Z_find_n hR hI hv) rfl ?_
    refine J_nuN S_X9_ask rfl ?_
    refine J_C S_X9_ask rfl ?_
    refine J_retI S_X9_ask rfl ?_
    exact ⟨rfl, rfl⟩
  · obtain ⟨k, rfl, hk, he, -⟩ := isV_y hI hv
    refine J_ald S_X9_ask rfl rfl ?_
    refine J_getR S_X9_ask rfl (o' := 4) (by assumption) (by omega) rfl ?_
    refine J_getR S_X9_ask rfl (o' := 5) (by assumption) (by omega) rfl ?_
    refine J_ast S_X9_ask rfl rfl ?_
    refine J_ald S_X9_ask rfl rfl ?_
    refine J_ild S_X9_ask rfl rfl ?_
    refine J_CVx S_X9_ask rfl rfl (by assumption) (by omega) (by simp) (Z_find_y hR hI hk he) rfl ?_
    refine J_nuS S_X9_ask rfl ?_
    refine J_ild S_X9_ask rfl rfl ?_
    refine J_if S_X9_ask rfl (fun c19 => ?_) (fun c19 => ?_)
    · refine J_C S_X9_ask rfl ?_
      refine J_retI S_X9_ask rfl ?_
      exact ⟨rfl, rfl⟩
    · refine J_ild S_X9_ask rfl rfl ?_
      refine J_ald S_X9_ask rfl rfl ?_
      refine J_getR S_X9_ask rfl (o' := 6) (by assumption) (by omega) rfl ?_
      refine J_getI S_X9_ask rfl (by assumption) (by omega) ?_
      rw [e0]
      refine J_cmp S_X9_ask rfl (fun c31 => ?_) (fun c31 => ?_)
      · refine J_C S_X9_ask rfl ?_
        refine J_retI S_X9_ask rfl ?_
        exact ⟨rfl, rfl⟩
      · refine J_ild S_X9_ask rfl rfl ?_
        refine J_if S_X9_ask rfl (fun c35 => ?_) (fun c35 => ?_)
        · exact absurd ⟨hv, ⟨Int32.not_lt.mp c19, Int32.not_lt.mp c31⟩, Or.inl c35⟩ h
        · refine J_ild S_X9_ask rfl rfl ?_
          refine J_C S_X9_ask rfl ?_
          refine J_cmp S_X9_ask rfl (fun c40 => ?_) (fun c40 => ?_)
          · exact absurd ⟨hv, ⟨Int32.not_lt.mp c19, Int32.not_lt.mp c31⟩, Or.inr c40⟩ h
          · refine J_C S_X9_ask rfl ?_
            refine J_retI S_X9_ask rfl ?_
            exact ⟨rfl, rfl⟩
theorem X9_ask_ok {w : mv} (hR : RB I 5 w) (hI : IV w) {k n : Nat} {c : Int32} (hk : k < 8) (he : vk w k 4 = 1) (hn : n ≤ tn (w 0)) (hc : c = 0 ∨ c = 1) : mj_R D_X9_ask [.inr (some 0), .inl (nI k), .inl (nI n), .inl c] (mj_w I) (mj_px (fun r I' => r = some (.inl (aq w n k)) ∧ SC I I')) := by
  have m0 := s_0
  have m4 := mj_S4.1
  have m5 := mj_B5.1
  have m6 : mj_sh 6 = (2, 3) := mj_B5.2.1
  have m294 := s_294
  have hle := hI.1.2
  have e0 : I 6 2 = nI (tn (w 0)) := by rw [← hI.1.1]; exact hR.1
  have h1 := C_X4_answerByTables (I := I) mj_B5 hR hI (by omega) hk he hn
  have h2 := C_X4_answerByChanges (I := I) mj_B5 hR hI (by omega) hk he hn
  refine mj_enter (by decide +kernel) (Nat.le_of_ble_eq_true rfl) ?_
  rcases hc with rfl | rfl
  · refine J_ald S_X9_ask rfl rfl ?_
    refine J_getR S_X9_ask rfl (o' := 4) (by assumption) (by omega) rfl ?_
    refine J_getR S_X9_ask rfl (o' := 5) (by assumption) (by omega) rfl ?_
    refine J_ast S_X9_ask rfl rfl ?_
    refine J_ald S_X9_ask rfl rfl ?_
    refine J_ild S_X9_ask rfl rfl ?_
    refine J_CVx S_X9_ask rfl rfl (by assumption) (by omega) (by simp) (Z_find_y hR hI hk he) rfl ?_
    refine J_nuS S_X9_ask rfl ?_
    refine J_ild S_X9_ask rfl rfl ?_
    refine J_if S_X9_ask rfl (fun c19 => False.elim (nI_pos (by omega) c19)) (fun c19 => ?_)
    refine J_ild S_X9_ask rfl rfl ?_
    refine J_ald S_X9_ask rfl rfl ?_
    refine J_getR S_X9_ask rfl (o' := 6) (by assumption) (by omega) rfl ?_
    refine J_getI S_X9_ask rfl (by assumption) (by omega) ?_
    rw [e0]
    refine J_cmp S_X9_ask rfl (fun c31 => False.elim (nI_nlt hn (by omega) c31)) (fun c31 => ?_)
    refine J_ild S_X9_ask rfl rfl ?_
    refine J_if S_X9_ask rfl (fun c35 => ?_) (fun c35 => False.elim (c35 rfl))
    refine J_ild S_X9_ask rfl rfl ?_
    refine J_if S_X9_ask rfl (fun c47 => False.elim (c47 rfl)) (fun c47 => ?_)
    refine J_ald S_X9_ask rfl rfl ?_
    refine J_getR S_X9_ask rfl (o' := 294) (by assumption) (by omega) rfl ?_
    refine J_ald S_X9_ask rfl rfl ?_
    refine J_ild S_X9_ask rfl rfl ?_
    refine J_ild S_X9_ask rfl rfl ?_
    refine J_CV S_X9_ask rfl rfl (by assumption) (by omega) (by simp) (h1) ?_
    rintro _ _ ⟨I2, rfl, rfl, g⟩
    refine J_goto S_X9_ask rfl ?_
    refine J_retI S_X9_ask rfl ?_
    exact ⟨I2, rfl, rfl, sc_rp g⟩
  · refine J_ald S_X9_ask rfl rfl ?_
    refine J_getR S_X9_ask rfl (o' := 4) (by assumption) (by omega) rfl ?_
    refine J_getR S_X9_ask rfl (o' := 5) (by assumption) (by omega) rfl ?_
    refine J_ast S_X9_ask rfl rfl ?_
    refine J_ald S_X9_ask rfl rfl ?_
    refine J_ild S_X9_ask rfl rfl ?_
    refine J_CVx S_X9_ask rfl rfl (by assumption) (by omega) (by simp) (Z_find_y hR hI hk he) rfl ?_
    refine J_nuS S_X9_ask rfl ?_
    refine J_ild S_X9_ask rfl rfl ?_
    refine J_if S_X9_ask rfl (fun c19 => False.elim (nI_pos (by omega) c19)) (fun c19 => ?_)
    refine J_ild S_X9_ask rfl rfl ?_
    refine J_ald S_X9_ask rfl rfl ?_
    refine J_getR S_X9_ask rfl (o' := 6) (by assumption) (by omega) rfl ?_
    refine J_getI S_X9_ask rfl (by assumption) (by omega) ?_
    rw [e0]
    refine J_cmp S_X9_ask rfl (fun c31 => False.elim (nI_nlt hn (by omega) c31)) (fun c31 => ?_)
    refine J_ild S_X9_ask rfl rfl ?_
    refine J_if S_X9_ask rfl (fun c35 => False.elim (absurd c35 (by decide))) (fun c35 => ?_)
    refine J_ild S_X9_ask rfl rfl ?_
    refine J_C S_X9_ask rfl ?_
    refine J_cmp S_X9_ask rfl (fun c40 => ?_) (fun c40 => False.elim (c40 rfl))
    refine J_ild S_X9_ask rfl rfl ?_
    refine J_if S_X9_ask rfl (fun c47 => ?_) (fun c47 => False.elim (absurd c47 (by decide)))
    refine J_ald S_X9_ask rfl rfl ?_
    refine J_getR S_X9_ask rfl (o' := 294) (by assumption) (by omega) rfl ?_
    refine J_ald S_X9_ask rfl rfl ?_
    refine J_ild S_X9_ask rfl rfl ?_
    refine J_ild S_X9_ask rfl rfl ?_
    refine J_CV S_X9_ask rfl rfl (by assumption) (by omega) (by simp) (h2) ?_
    rintro _ _ ⟨I2, rfl, rfl, g⟩
    refine J_retI S_X9_ask rfl ?_
    exact ⟨I2, rfl, rfl, sc_rp g⟩
theorem in01 {c : Int32} : (0 ≤ c ∧ c ≤ 1) ↔ (c = 0 ∨ c = 1) := by
  constructor
  · intro h
    obtain ⟨j, hj, rfl⟩ := i_rng (n := 1) (by decide) h.1 h.2
    rcases (show j = 0 ∨ j = 1 by omega) with rfl | rfl
    · exact Or.inl rfl
    · exact Or.inr rfl
  · rintro (rfl | rfl) <;> decide
theorem X10_ask_no (hI : IV (I 314)) {a b c : Int32} (h : ¬ (isV (I 314) a = true ∧ (0 ≤ b ∧ b ≤ I 314 0) ∧ (c = 0 ∨ c = 1))) : mj_R D_X10_ask [.inr (some 313), .inl a, .inl b, .inl c] (mj_w I) (mj_ex (some (.inl (-100000001))) I) := by
  have m0 := s_313
  refine mj_enter (by decide +kernel) (Nat.le_of_ble_eq_true rfl) ?_
  cases hv : isV (I 314) a
  · refine J_ald S_X10_ask rfl rfl ?_
    refine J_ild S_X10_ask rfl rfl ?_
    refine J_CVx S_X10_ask rfl rfl (by assumption) (by omega) (by simp) (Y_isV hI rfl hv) rfl ?_
    refine J_if S_X10_ask rfl (fun c5 => ?_) (fun c5 => False.elim (c5 rfl))
    refine J_C S_X10_ask rfl ?_
    refine J_retI S_X10_ask rfl ?_
    exact ⟨rfl, rfl⟩
  · by_cases h2 : 0 ≤ b ∧ b ≤ I 314 0
    · refine J_ald S_X10_ask rfl rfl ?_
      refine J_ild S_X10_ask rfl rfl ?_
      refine J_CVx S_X10_ask rfl rfl (by assumption) (by omega) (by simp) (Y_isV hI rfl hv) rfl ?_
      refine J_if S_X10_ask rfl (fun c5 => False.elim (absurd c5 (by decide))) (fun c5 => ?_)
      refine J_ald S_X10_ask rfl rfl ?_
      refine J_ild S_X10_ask rfl rfl ?_
      refine J_CVx S_X10_ask rfl rfl (by assumption) (by omega) (by simp) (pl_t hI h2) rfl ?_
      refine J_if S_X10_ask rfl (fun c13 => False.elim (absurd c13 (by decide))) (fun c13 => ?_)
      refine J_ild S_X10_ask rfl rfl ?_
      refine J_C S_X10_ask rfl ?_
      refine J_C S_X10_ask rfl ?_
      refine J_CSx S_X10_ask rfl rfl (by simp) (in_f (fun h3 => h ⟨hv, h2, in01.mp h3⟩)) rfl ?_
      refine J_if S_X10_ask rfl (fun c22 => ?_) (fun c22 => False.elim (c22 rfl))
      refine J_C S_X10_ask rfl ?_
      refine J_retI S_X10_ask rfl ?_
      exact ⟨rfl, rfl⟩
    · refine J_ald S_X10_ask rfl rfl ?_
      refine J_ild S_X10_ask rfl rfl ?_
      refine J_CVx S_X10_ask rfl rfl (by assumption) (by omega) (by simp) (Y_isV hI rfl hv) rfl ?_
      refine J_if S_X10_ask rfl (fun c5 => False.elim (absurd c5 (by decide))) (fun c5 => ?_)
      refine J_ald S_X10_ask rfl rfl ?_
      refine J_ild S_X10_ask rfl rfl ?_
      refine J_CVx S_X10_ask rfl rfl (by assumption) (by omega) (by simp) (pl_f hI h2) rfl ?_
      refine J_if S_X10_ask rfl (fun c13 => ?_) (fun c13 => False.elim (c13 rfl))
      refine J_C S_X10_ask rfl ?_
      refine J_retI S_X10_ask rfl ?_
      exact ⟨rfl, rfl⟩
theorem X10_ask_ok (hI : IV (I 314)) {k n : Nat} {c : Int32} (hk : k < 8) (he : vk (I 314) k 4 = 1) (hn : n ≤ tn (I 314 0)) (hc : c = 0 ∨ c = 1) : mj_R D_X10_ask [.inr (some 313), .inl (nI k), .inl (nI n), .inl c] (mj_w I) (mj_px (fun r I' => r = some (.inl (aq (I 314) n k)) ∧ Ms I I')) := by
  have m0 := s_313
  have hle := hI.1.2
  have hv : isV (I 314) (nI k) = true := by rw [isV_nI hk]; exact ex_t he
  have q3 : 0 ≤ nI n ∧ nI n ≤ I 314 0 := ⟨nI_pos' (by omega), by rw [hI.1.1]; exact nI_le hn (by omega)⟩
  have haa := C_X10_answerAt (I := I) hI hk hn
  refine mj_enter (by decide +kernel) (Nat.le_of_ble_eq_true rfl) ?_
  refine J_ald S_X10_ask rfl rfl ?_
  refine J_ild S_X10_ask rfl rfl ?_
  refine J_CVx S_X10_ask rfl rfl (by assumption) (by omega) (by simp) (Y_isV hI rfl hv) rfl ?_
  refine J_if S_X10_ask rfl (fun c5 => False.elim (absurd c5 (by decide))) (fun c5 => ?_)
  refine J_ald S_X10_ask rfl rfl ?_
  refine J_ild S_X10_ask rfl rfl ?_
  refine J_CVx S_X10_ask rfl rfl (by assumption) (by omega) (by simp) (pl_t hI q3) rfl ?_
  refine J_if S_X10_ask rfl (fun c13 => False.elim (absurd c13 (by decide))) (fun c13 => ?_)
  refine J_ild S_X10_ask rfl rfl ?_
  refine J_C S_X10_ask rfl ?_
  refine J_C S_X10_ask rfl ?_
  refine J_CSx S_X10_ask rfl rfl (by simp) (in_t (in01.mpr hc)) rfl ?_
  refine J_if S_X10_ask rfl (fun c22 => False.elim (absurd c22 (by decide))) (fun c22 => ?_)
  refine J_ald S_X10_ask rfl rfl ?_
  refine J_ild S_X10_ask rfl rfl ?_
  refine J_ild S_X10_ask rfl rfl ?_
  refine J_CV S_X10_ask rfl rfl (by assumption) (by omega) (by simp) (haa) ?_
  rintro _ _ ⟨I2, rfl, rfl, g⟩
  refine J_goto S_X10_ask rfl ?_
  refine J_retI S_X10_ask rfl ?_
  exact ⟨I2, rfl, rfl, g⟩
theorem P_ask (h : Rl I) (a b c : Int32) : PRI D_X9_ask D_X10_ask [.inl a, .inl b, .inl c] I := by
  have hRl := h
  obtain ⟨o, n, L, hc, h2, h4⟩ := h
  have m0 := s_0
  have m1 := s_1
  have m2 := s_2
  have m4 := mj_S4.1
  have m5 := mj_B5.1
  have m6 : mj_sh 6 = (2, 3) := mj_B5.2.1
  have m52 := s_52
  have m294 := s_294
  have hR : RB I 5 (I 314) := hc.1.1
  have hI : IV (I 314) := hc.1.2.1
  have hZ : ZB (I 314) := hc.1.2.2.1
  have hn : n ≤ 5 := hc.2.1.2.2.2.1
  have hle : tn (I 314 0) ≤ 200 := hI.1.2
  by_cases hno : isV (I 314) a = true ∧ (0 ≤ b ∧ b ≤ I 314 0) ∧ (c = 0 ∨ c = 1)
  · obtain ⟨q1, q2, q3⟩ := hno
    obtain ⟨k, rfl, hk, he, -⟩ := isV_y hI q1
    obtain ⟨j, hj, rfl⟩ := pl_n hI q2
    refine PR_look hRl (X9_ask_ok hR hI hk he hj q3) (fun I1 hu => ?_)
    have e := hu 314 (by decide)
    have g := X10_ask_ok (I := I1) (k := k) (n := j) (c := c) (by rw [e]; exact hI) hk (by rw [e]; exact he) (by rw [e]; exact hj) q3
    rw [e] at g
    exact g
  · exact PR_no hRl (X9_ask_no hR hI hno) (fun I1 hu => X10_ask_no (by rw [hu 314 (by decide)]; exact hI) (by rw [hu 314 (by decide)]; exact hno))
end P7
