theorem lk_tl {v : mv} (hI : IV v) (g : Nat → Bool) : msk (fun k => ex v k && g k) 8 = msk (fun k => ex v k && g k) (tn (v 1)) :=
  msk_zero hI.2.1.2 (fun i h1 h2 => by
    show (ex v i && g i) = false
    rw [ex_f (hI.2.2.2.2.2.2 i h1 h2)]
    rfl)
def smD (v : mv) : Nat → Int32
  | 0 => 0
  | n + 1 => smD v n + vk v n 7
theorem smD_sm {v : mv} (hI : IV v) : ∀ n, n ≤ tn (v 1) → smD v n = sm (ex v) (fun k => vk v k 7) n
  | 0, _ => rfl
  | n + 1, h => by
    rw [smD, sm, smD_sm hI n (by omega)]
    have hw := hI.2.2.2.2.2.1 n (by omega)
    rcases hw.1 with h4 | h4
    · rw [ex_f h4, if_neg (by decide), hw.2.2.2.2.2.2.2.2.2.2.2.2 h4, Int32.add_zero]
    · rw [ex_t h4, if_pos rfl]
theorem sm_tl {v : mv} (hI : IV v) (g : Nat → Int32) : sm (ex v) g 8 = sm (ex v) g (tn (v 1)) := by
  have h8 : ∀ m, tn (v 1) + m ≤ 8 → sm (ex v) g (tn (v 1) + m) = sm (ex v) g (tn (v 1)) := by
    intro m
    induction m with
    | zero => intro _; rfl
    | succ m ih =>
      intro hm
      rw [← Nat.add_assoc, sm, ex_f (hI.2.2.2.2.2.2 (tn (v 1) + m) (by omega) (by omega)), if_neg (by decide), ih (by omega)]
  have h := h8 (8 - tn (v 1)) (by have := hI.2.1.2; omega)
  rw [show tn (v 1) + (8 - tn (v 1)) = 8 by have := hI.2.1.2; omega] at h
  exact h
section P6
variable {I : mj_I}
theorem C_X10_setOf (hI : IV (I 314)) {wh w : Nat} (hw : (wh = 3 ∧ w = 0) ∨ (wh = 4 ∧ w = 1) ∨ (wh = 5 ∧ w = 3)) : mj_R D_X10_setOf [.inr (some 313), .inl (nI wh)] (mj_w I) (mj_ex (some (.inl (nI (msk (fun k => ex (I 314) k && bel (I 314) w k) 8)))) I) := by
  have m0 := s_313
  have m1 := s_314
  rw [lk_tl hI]
  obtain ⟨df, hdf, hdl⟩ : ∃ d, I 314 1 = nI d ∧ d ≤ 8 := ⟨_, hI.2.1.1, hI.2.1.2⟩
  have hdt : tn (I 314 1) = df := by rw [hdf, tn_nI (by omega)]
  rw [hdt]
  refine mj_enter (by decide +kernel) (Nat.le_of_ble_eq_true rfl) ?_
  have key : ∀ (s k : Nat) (q4 : Option mj_V), k + s = df → mj_J D_X10_setOf (mj_ex (some (.inl (nI (msk (fun k => ex (I 314) k && bel (I 314) w k) df)))) I) 4 [some (.inr (some 313)), some (.inl (nI wh)), some (.inl (nI (msk (fun k => ex (I 314) k && bel (I 314) w k) k))), some (.inl (nI k)), q4] [] (mj_w I) (0, 0) := by
    intro s
    induction s with
    | zero =>
      intro k q4 hk
      obtain rfl : k = df := by omega
      refine J_ild S_X10_setOf rfl rfl ?_
      refine J_ald S_X10_setOf rfl rfl ?_
      refine J_getR S_X10_setOf rfl (o' := 314) (by assumption) (by omega) rfl ?_
      refine J_C S_X10_setOf rfl ?_
      refine J_iald S_X10_setOf rfl (by assumption) (by omega) (j := 1) rfl (by omega) (by decide) ?_
      rw [hdf]
      refine J_cmp S_X10_setOf rfl (fun c11 => ?_) (fun c11 => False.elim (c11 (Int32.le_refl _)))
      refine J_ild S_X10_setOf rfl rfl ?_
      refine J_retI S_X10_setOf rfl ?_
      exact ⟨rfl, rfl⟩
    | succ s ih =>
      intro k q4 hk
      have hkd : k < df := by omega
      have hk8 : k < 8 := by omega
      have hm := tk_msk (fun k => ex (I 314) k && bel (I 314) w k) (k := k) (by omega)
      have nx : ∀ (x : Int32) (q : Option mj_V), x = (if (ex (I 314) k && bel (I 314) w k) = true then 1 <<< (nI k &&& 31) else 0) → mj_J D_X10_setOf (mj_ex (some (.inl (nI (msk (fun k => ex (I 314) k && bel (I 314) w k) df)))) I) 4 [some (.inr (some 313)), some (.inl (nI wh)), some (.inl (nI (msk (fun k => ex (I 314) k && bel (I 314) w k) k) ||| x)), some (.inl (nI k + 1)), q] [] (mj_w I) (0, 0) := by
        intro x q hx
        rw [hx, hm, ← nI_succ]
        exact ih (k + 1) q (by omega)
      have hiv := Y_isV (I := I) hI rfl (x := nI k) (isV_nI hk8)
      have tail : ∀ b, (ex (I 314) k = true → b = bel (I 314) w k) → mj_J D_X10_setOf (mj_ex (some (.inl (nI (msk (fun k => ex (I 314) k && bel (I 314) w k) df)))) I) 50 [some (.inr (some 313)), some (.inl (nI wh)), some (.inl (nI (msk (fun k => ex (I 314) k && bel (I 314) w k) k))), some (.inl (nI k)), some (.inl (bi b))] [] (mj_w I) (0, 0) := by
        intro b hb
        cases he : ex (I 314) k
        · rw [he] at hiv
          refine J_ild S_X10_setOf rfl rfl ?_
          refine J_ald S_X10_setOf rfl rfl ?_
          refine J_ild S_X10_setOf rfl rfl ?_
          refine J_CVx S_X10_setOf rfl rfl (by assumption) (by omega) (by simp) (hiv) rfl ?_
          refine J_if S_X10_setOf rfl (fun c56 => ?_) (fun c56 => False.elim (c56 rfl))
          refine J_C S_X10_setOf rfl ?_
          refine J_bin S_X10_setOf rfl ?_
          refine J_ist S_X10_setOf rfl rfl ?_
          refine J_inc S_X10_setOf rfl rfl rfl ?_
          refine J_goto S_X10_setOf rfl ?_
          exact nx 0 _ (by rw [he]; rfl)
        · rw [he] at hiv
          have hb := hb he
          cases b
          · refine J_ild S_X10_setOf rfl rfl ?_
            refine J_ald S_X10_setOf rfl rfl ?_
            refine J_ild S_X10_setOf rfl rfl ?_
            refine J_CVx S_X10_setOf rfl rfl (by assumption) (by omega) (by simp) (hiv) rfl ?_
            refine J_if S_X10_setOf rfl (fun c56 => False.elim (absurd c56 (by decide))) (fun c56 => ?_)
            refine J_ild S_X10_setOf rfl rfl ?_
            refine J_if S_X10_setOf rfl (fun c61 => ?_) (fun c61 => False.elim (c61 rfl))
            refine J_C S_X10_setOf rfl ?_
            refine J_bin S_X10_setOf rfl ?_
            refine J_ist S_X10_setOf rfl rfl ?_
            refine J_inc S_X10_setOf rfl rfl rfl ?_
            refine J_goto S_X10_setOf rfl ?_
            exact nx 0 _ (by rw [he, ← hb]; rfl)
          · refine J_ild S_X10_setOf rfl rfl ?_
            refine J_ald S_X10_setOf rfl rfl ?_
            refine J_ild S_X10_setOf rfl rfl ?_
            refine J_CVx S_X10_setOf rfl rfl (by assumption) (by omega) (by simp) (hiv) rfl ?_
            refine J_if S_X10_setOf rfl (fun c56 => False.elim (absurd c56 (by decide))) (fun c56 => ?_)
            refine J_ild S_X10_setOf rfl rfl ?_
            refine J_if S_X10_setOf rfl (fun c61 => False.elim (absurd c61 (by decide))) (fun c61 => ?_)
            refine J_C S_X10_setOf rfl ?_
            refine J_ild S_X10_setOf rfl rfl ?_
            refine J_bin S_X10_setOf rfl ?_
            refine J_goto S_X10_setOf rfl ?_
            refine J_bin S_X10_setOf rfl ?_
            refine J_ist S_X10_setOf rfl rfl ?_
            refine J_inc S_X10_setOf rfl rfl rfl ?_
            refine J_goto S_X10_setOf rfl ?_
            exact nx _ _ (by rw [he, ← hb]; rfl)
      rcases hw with ⟨rfl, rfl⟩ | ⟨rfl, rfl⟩ | ⟨rfl, rfl⟩
      · refine J_ild S_X10_setOf rfl rfl ?_
        refine J_ald S_X10_setOf rfl rfl ?_
        refine J_getR S_X10_setOf rfl (o' := 314) (by assumption) (by omega) rfl ?_
        refine J_C S_X10_setOf rfl ?_
        refine J_iald S_X10_setOf rfl (by assumption) (by omega) (j := 1) rfl (by omega) (by decide) ?_
        rw [hdf]
        refine J_cmp S_X10_setOf rfl (fun c11 => False.elim (nI_ge hkd (by omega) c11)) (fun c11 => ?_)
        refine J_ild S_X10_setOf rfl rfl ?_
        refine J_C S_X10_setOf rfl ?_
        refine J_cmp S_X10_setOf rfl (fun c16 => ?_) (fun c16 => False.elim (c16 rfl))
        refine J_C S_X10_setOf rfl ?_
        refine J_goto S_X10_setOf rfl ?_
        refine J_ist S_X10_setOf rfl rfl ?_
        exact tail true (fun _ => rfl)
      · have hib := C_X10_isBankrupt (I := I) hk8
        cases h5 : decide (vk (I 314) k 5 = 1)
        · rw [h5] at hib
          refine J_ild S_X10_setOf rfl rfl ?_
          refine J_ald S_X10_setOf rfl rfl ?_
          refine J_getR S_X10_setOf rfl (o' := 314) (by assumption) (by omega) rfl ?_
          refine J_C S_X10_setOf rfl ?_
          refine J_iald S_X10_setOf rfl (by assumption) (by omega) (j := 1) rfl (by omega) (by decide) ?_
          rw [hdf]
          refine J_cmp S_X10_setOf rfl (fun c11 => False.elim (nI_ge hkd (by omega) c11)) (fun c11 => ?_)
          refine J_ild S_X10_setOf rfl rfl ?_
          refine J_C S_X10_setOf rfl ?_
          refine J_cmp S_X10_setOf rfl (fun c16 => False.elim (absurd c16 (by decide))) (fun c16 => ?_)
          refine J_ild S_X10_setOf rfl rfl ?_
          refine J_C S_X10_setOf rfl ?_
          refine J_cmp S_X10_setOf rfl (fun c21 => False.elim (c21 rfl)) (fun c21 => ?_)
          refine J_ald S_X10_setOf rfl rfl ?_
          refine J_ild S_X10_setOf rfl rfl ?_
          refine J_CVx S_X10_setOf rfl rfl (by assumption) (by omega) (by simp) (hib) rfl ?_
          refine J_if S_X10_setOf rfl (fun c29 => ?_) (fun c29 => False.elim (c29 rfl))
          refine J_C S_X10_setOf rfl ?_
          refine J_ist S_X10_setOf rfl rfl ?_
          exact tail false (fun _ => h5.symm)
        · rw [h5] at hib
          refine J_ild S_X10_setOf rfl rfl ?_
          refine J_ald S_X10_setOf rfl rfl ?_
          refine J_getR S_X10_setOf rfl (o' := 314) (by assumption) (by omega) rfl ?_
          refine J_C S_X10_setOf rfl ?_
          refine J_iald S_X10_setOf rfl (by assumption) (by omega) (j := 1) rfl (by omega) (by decide) ?_
          rw [hdf]
          refine J_cmp S_X10_setOf rfl (fun c11 => False.elim (nI_ge hkd (by omega) c11)) (fun c11 => ?_)
          refine J_ild S_X10_setOf rfl rfl ?_
          refine J_C S_X10_setOf rfl ?_
          refine J_cmp S_X10_setOf rfl (fun c16 => False.elim (absurd c16 (by decide))) (fun c16 => ?_)
          refine J_ild S_X10_setOf rfl rfl ?_
          refine J_C S_X10_setOf rfl ?_
          refine J_cmp S_X10_setOf rfl (fun c21 => False.elim (c21 rfl)) (fun c21 => ?_)
          refine J_ald S_X10_setOf rfl rfl ?_
          refine J_ild S_X10_setOf rfl rfl ?_
          refine J_CVx S_X10_setOf rfl rfl (by assumption) (by omega) (by simp) (hib) rfl ?_
          refine J_if S_X10_setOf rfl (fun c29 => False.elim (absurd c29 (by decide))) (fun c29 => ?_)
          refine J_goto S_X10_setOf rfl ?_
          refine J_C S_X10_setOf rfl ?_
          refine J_goto S_X10_setOf rfl ?_
          refine J_ist S_X10_setOf rfl rfl ?_
          exact tail true (fun _ => h5.symm)
      · have har := C_X10_arrears (I := I) hI (k := k) (by rw [hdt]; exact hkd)
        have hlt := arrM_lt (v := I 314) (k := k)
        by_cases h0 : 0 < arrM (I 314) k
        · refine J_ild S_X10_setOf rfl rfl ?_
          refine J_ald S_X10_setOf rfl rfl ?_
          refine J_getR S_X10_setOf rfl (o' := 314) (by assumption) (by omega) rfl ?_
          refine J_C S_X10_setOf rfl ?_
          refine J_iald S_X10_setOf rfl (by assumption) (by omega) (j := 1) rfl (by omega) (by decide) ?_
          rw [hdf]
          refine J_cmp S_X10_setOf rfl (fun c11 => False.elim (nI_ge hkd (by omega) c11)) (fun c11 => ?_)
          refine J_ild S_X10_setOf rfl rfl ?_
          refine J_C S_X10_setOf rfl ?_
          refine J_cmp S_X10_setOf rfl (fun c16 => False.elim (absurd c16 (by decide))) (fun c16 => ?_)
          refine J_ild S_X10_setOf rfl rfl ?_
          refine J_C S_X10_setOf rfl ?_
          refine J_cmp S_X10_setOf rfl (fun c21 => ?_) (fun c21 => False.elim (absurd c21 (by decide)))
          refine J_ald S_X10_setOf rfl rfl ?_
          refine J_ild S_X10_setOf rfl rfl ?_
          refine J_CVx S_X10_setOf rfl rfl (by assumption) (by omega) (by simp) (har) rfl ?_
          refine J_if S_X10_setOf rfl (fun c40 => False.elim (nI_ge (show 0 < arrM (I 314) k from h0) hlt c40)) (fun c40 => ?_)
          refine J_C S_X10_setOf rfl ?_
          refine J_goto S_X10_setOf rfl ?_
          refine J_ist S_X10_setOf rfl rfl ?_
          exact tail true (fun he => by show true = decide (0 < arr (I 314) k); rw [← arrM_ex (of_decide_eq_true he), decide_eq_true h0])
        · have e0 : arrM (I 314) k = 0 := by omega
          refine J_ild S_X10_setOf rfl rfl ?_
          refine J_ald S_X10_setOf rfl rfl ?_
          refine J_getR S_X10_setOf rfl (o' := 314) (by assumption) (by omega) rfl ?_
          refine J_C S_X10_setOf rfl ?_
          refine J_iald S_X10_setOf rfl (by assumption) (by omega) (j := 1) rfl (by omega) (by decide) ?_
          rw [hdf]
          refine J_cmp S_X10_setOf rfl (fun c11 => False.elim (nI_ge hkd (by omega) c11)) (fun c11 => ?_)
          refine J_ild S_X10_setOf rfl rfl ?_
          refine J_C S_X10_setOf rfl ?_
          refine J_cmp S_X10_setOf rfl (fun c16 => False.elim (absurd c16 (by decide))) (fun c16 => ?_)
          refine J_ild S_X10_setOf rfl rfl ?_
          refine J_C S_X10_setOf rfl ?_
          refine J_cmp S_X10_setOf rfl (fun c21 => ?_) (fun c21 => False.elim (absurd c21 (by decide)))
          refine J_ald S_X10_setOf rfl rfl ?_
          refine J_ild S_X10_setOf rfl rfl ?_
          refine J_CVx S_X10_setOf rfl rfl (by assumption) (by omega) (by simp) (har) rfl ?_
          refine J_if S_X10_setOf rfl (fun c40 => ?_) (fun c40 => False.elim (c40 (by rw [e0]; decide)))
          refine J_C S_X10_setOf rfl ?_
          refine J_ist S_X10_setOf rfl rfl ?_
          exact tail false (fun he => by show false = decide (0 < arr (I 314) k); rw [← arrM_ex (of_decide_eq_true he), decide_eq_false h0])
  refine J_C S_X10_setOf rfl ?_
  refine J_ist S_X10_setOf rfl rfl ?_
  refine J_C S_X10_setOf rfl ?_
  refine J_ist S_X10_setOf rfl rfl ?_
  exact key df 0 _ (by omega)
theorem C_X10_debts (hI : IV (I 314)) : mj_R D_X10_debts [.inr (some 313)] (mj_w I) (mj_ex (some (.inl (sm (ex (I 314)) (fun k => vk (I 314) k 7) 8))) I) := by
  have m0 := s_313
  have m1 := s_314
  rw [sm_tl hI, ← smD_sm hI _ (Nat.le_refl _)]
  obtain ⟨df, hdf, hdl⟩ : ∃ d, I 314 1 = nI d ∧ d ≤ 8 := ⟨_, hI.2.1.1, hI.2.1.2⟩
  have hdt : tn (I 314 1) = df := by rw [hdf, tn_nI (by omega)]
  rw [hdt]
  refine mj_enter (by decide +kernel) (Nat.le_of_ble_eq_true rfl) ?_
  have key : ∀ (s k : Nat), k + s = df → mj_J D_X10_debts (mj_ex (some (.inl (smD (I 314) df))) I) 4 [some (.inr (some 313)), some (.inl (smD (I 314) k)), some (.inl (nI k))] [] (mj_w I) (0, 0) := by
    intro s
    induction s with
    | zero =>
      intro k hk
      obtain rfl : k = df := by omega
      refine J_ild S_X10_debts rfl rfl ?_
      refine J_ald S_X10_debts rfl rfl ?_
      refine J_getR S_X10_debts rfl (o' := 314) (by assumption) (by omega) rfl ?_
      refine J_C S_X10_debts rfl ?_
      refine J_iald S_X10_debts rfl (by assumption) (by omega) (j := 1) rfl (by omega) (by decide) ?_
      rw [hdf]
      refine J_cmp S_X10_debts rfl (fun c11 => ?_) (fun c11 => False.elim (c11 (Int32.le_refl _)))
      refine J_ild S_X10_debts rfl rfl ?_
      refine J_retI S_X10_debts rfl ?_
      exact ⟨rfl, rfl⟩
    | succ s ih =>
      intro k hk
      have hkd : k < df := by omega
      refine J_ild S_X10_debts rfl rfl ?_
      refine J_ald S_X10_debts rfl rfl ?_
      refine J_getR S_X10_debts rfl (o' := 314) (by assumption) (by omega) rfl ?_
      refine J_C S_X10_debts rfl ?_
      refine J_iald S_X10_debts rfl (by assumption) (by omega) (j := 1) rfl (by omega) (by decide) ?_
      rw [hdf]
      refine J_cmp S_X10_debts rfl (fun c11 => False.elim (nI_ge hkd (by omega) c11)) (fun c11 => ?_)
      refine J_ild S_X10_debts rfl rfl ?_
      refine J_ald S_X10_debts rfl rfl ?_
      refine J_getR S_X10_debts rfl (o' := 314) (by assumption) (by omega) rfl ?_
      refine J_ild S_X10_debts rfl rfl ?_
      refine J_C S_X10_debts rfl ?_
      refine J_CSx S_X10_debts rfl rfl (by simp) (C_X10_v (k := k) (f := 7)) rfl ?_
      refine J_iald S_X10_debts rfl (by assumption) (by omega) (j := 615 + 9 * k + 7) rfl (by omega) (by decide) ?_
      refine J_bin S_X10_debts rfl ?_
      refine J_ist S_X10_debts rfl rfl ?_
      refine J_inc S_X10_debts rfl rfl rfl ?_
      refine J_goto S_X10_debts rfl ?_
      rw [← nI_succ]
      exact ih (k + 1) (by omega)
  refine J_C S_X10_debts rfl ?_
  refine J_ist S_X10_debts rfl rfl ?_
  refine J_C S_X10_debts rfl ?_
  refine J_ist S_X10_debts rfl rfl ?_
  exact key df 0 (by omega)
theorem X9_count_no {a : Int32} (h : a < 0 ∨ nI 23 ≤ a) : mj_R D_X9_count [.inr (some 0), .inl a] (mj_w I) (mj_ex (some (.inl (-100000001))) I) := by
  have h23 : ¬ (0 ≤ a ∧ a ≤ 22) := by
    intro g
    rcases h with h | h
    · exact Int32.not_lt.mpr g.1 h
    · obtain ⟨j, hj, rfl⟩ := i_rng (n := 22) (by decide) g.1 g.2
      exact nI_ge (show j < 23 by omega) (by decide) h
  refine mj_enter (by decide +kernel) (Nat.le_of_ble_eq_true rfl) ?_
  refine J_ild S_X9_count rfl rfl ?_
  refine J_if S_X9_count rfl (fun c1 => ?_) (fun c1 => ?_)
  · refine J_C S_X9_count rfl ?_
    refine J_retI S_X9_count rfl ?_
    exact ⟨rfl, rfl⟩
  · refine J_ild S_X9_count rfl rfl ?_
    refine J_C S_X9_count rfl ?_
    refine J_cmp S_X9_count rfl (fun c7 => ?_) (fun c7 => ?_)
    · exact absurd ⟨Int32.not_lt.mp c1, c7⟩ h23
    · refine J_C S_X9_count rfl ?_
      refine J_retI S_X9_count rfl ?_
      exact ⟨rfl, rfl⟩
theorem X10_count_no {a : Int32} (h : a < 0 ∨ nI 23 ≤ a) : mj_R D_X10_count [.inr (some 313), .inl a] (mj_w I) (mj_ex (some (.inl (-100000001))) I) := by
  have hne : ∀ j, j < 23 → a ≠ nI j := by
    intro j hj e
    subst e
    rcases h with h | h
    · exact nI_pos (by omega) h
    · exact nI_ge hj (by decide) h
  have h1 : ¬ (6 ≤ a ∧ a ≤ 11) := by
    intro g
    obtain ⟨j, hj, rfl⟩ := i_rng (n := 11) (by decide) (Int32.le_trans (show (0 : Int32) ≤ 6 by decide) g.1) g.2
    exact hne j (by omega) rfl
  have h2 : ¬ (17 ≤ a ∧ a ≤ 22) := by
    intro g
    obtain ⟨j, hj, rfl⟩ := i_rng (n := 22) (by decide) (Int32.le_trans (show (0 : Int32) ≤ 17 by decide) g.1) g.2
    exact hne j (by omega) rfl
  refine mj_enter (by decide +kernel) (Nat.le_of_ble_eq_true rfl) ?_
  refine J_ild S_X10_count rfl rfl ?_
  refine J_sw S_X10_count rfl ⟨fun c => absurd c (hne 0 (by decide)), fun _ => ⟨fun c => absurd c (hne 1 (by decide)), fun _ => ⟨fun c => absurd c (hne 2 (by decide)), fun _ => ⟨fun c => absurd c (hne 3 (by decide)), fun _ => ⟨fun c => absurd c (hne 4 (by decide)), fun _ => ⟨fun c => absurd c (hne 5 (by decide)), fun _ => ⟨fun c => absurd c (hne 6 (by decide)), fun _ => ⟨fun c => absurd c (hne 7 (by decide)), fun _ => ⟨fun c => absurd c (hne 8 (by decide)), fun _ => ⟨fun c => absurd c (hne 9 (by decide)), fun _ => ⟨fun c => absurd c (hne 10 (by decide)), fun _ => ⟨fun c => absurd c (hne 11 (by decide)), fun _ => ⟨fun c => absurd c (hne 12 (by decide)), fun _ => ⟨fun c => absurd c (hne 13 (by decide)), fun _ => ⟨fun c => absurd c (hne 14 (by decide)), fun _ => ⟨fun c => absurd c (hne 15 (by decide)), fun _ => ⟨fun c => absurd c (hne 16 (by decide)), fun _ => ?_⟩⟩⟩⟩⟩⟩⟩⟩⟩⟩⟩⟩⟩⟩⟩⟩⟩
  refine J_ild S_X10_count rfl rfl ?_
  refine J_C S_X10_count rfl ?_
  refine J_C S_X10_count rfl ?_
  refine J_CSx S_X10_count rfl rfl (by simp) (in_f h1) rfl ?_
  refine J_if S_X10_count rfl (fun c172 => ?_) (fun c172 => False.elim (c172 rfl))
  refine J_ild S_X10_count rfl rfl ?_
  refine J_C S_X10_count rfl ?_
  refine J_C S_X10_count rfl ?_
  refine J_CSx S_X10_count rfl rfl (by simp) (in_f h2) rfl ?_
  refine J_if S_X10_count rfl (fun c197 => ?_) (fun c197 => False.elim (c197 rfl))
  refine J_C S_X10_count rfl ?_
  refine J_retI S_X10_count rfl ?_
  exact ⟨rfl, rfl⟩
theorem X9_count_0 {o n L : Nat} (hc : CR I (I 314) (I 315) o n L (I 316)) : mj_R D_X9_count [.inr (some 0), .inl (nI 0)] (mj_w I) (mj_ex (some (.inl (I 314 0))) I) := by
  have m0 := s_0
  have m1 := s_1
  have m2 := s_2
  have m4 := mj_S4.1
  have m5 := mj_B5.1
  have m6 : mj_sh 6 = (2, 3) := mj_B5.2.1
  have m52 := s_52
  have hR : RB I 5 (I 314) := hc.1.1
  have hI : IV (I 314) := hc.1.2.1
  refine mj_enter (by decide +kernel) (Nat.le_of_ble_eq_true rfl) ?_
  refine J_ild S_X9_count rfl rfl ?_
  refine J_if S_X9_count rfl (fun c1 => False.elim (absurd c1 (by decide))) (fun c1 => ?_)
  refine J_ild S_X9_count rfl rfl ?_
  refine J_C S_X9_count rfl ?_
  refine J_cmp S_X9_count rfl (fun c7 => ?_) (fun c7 => False.elim (c7 (by decide)))
  refine J_ald S_X9_count rfl rfl ?_
  refine J_getR S_X9_count rfl (o' := 4) (by assumption) (by omega) rfl ?_
  refine J_getR S_X9_count rfl (o' := 5) (by assumption) (by omega) rfl ?_
  refine J_ast S_X9_count rfl rfl ?_
  refine J_ild S_X9_count rfl rfl ?_
  refine J_sw S_X9_count rfl ⟨fun _ => ?_, fun c => False.elim (by revert c; decide)⟩
  refine J_ald S_X9_count rfl rfl ?_
  refine J_getR S_X9_count rfl (o' := 6) (by assumption) (by omega) rfl ?_
  refine J_getI S_X9_count rfl (by assumption) (by omega) ?_
  refine J_retI S_X9_count rfl ?_
  rw [show I 6 2 = I 314 0 from hR.1]; exact ⟨rfl, rfl⟩
theorem X10_count_0 {n L : Nat} (hI : IV (I 314)) (h2 : I 313 2 = nI n) (h4 : I 313 4 = nI L) : mj_R D_X10_count [.inr (some 313), .inl (nI 0)] (mj_w I) (mj_ex (some (.inl (I 314 0))) I) := by
  have m0 := s_313
  have m1 := s_314
  refine mj_enter (by decide +kernel) (Nat.le_of_ble_eq_true rfl) ?_
  refine J_ild S_X10_count rfl rfl ?_
  refine J_sw S_X10_count rfl ⟨fun _ => ?_, fun c => False.elim (by revert c; decide)⟩
  refine J_ald S_X10_count rfl rfl ?_
  refine J_getR S_X10_count rfl (o' := 314) (by assumption) (by omega) rfl ?_
  refine J_C S_X10_count rfl ?_
  refine J_iald S_X10_count rfl (by assumption) (by omega) (j := 0) rfl (by omega) (by decide) ?_
  refine J_retI S_X10_count rfl ?_
  exact ⟨rfl, rfl⟩
theorem X9_count_1 {o n L : Nat} (hc : CR I (I 314) (I 315) o n L (I 316)) : mj_R D_X9_count [.inr (some 0), .inl (nI 1)] (mj_w I) (mj_ex (some (.inl (nI (nV (I 314) (tn (I 314 1)))))) I) := by
  have m0 := s_0
  have m1 := s_1
  have m2 := s_2
  have m4 := mj_S4.1
  have m5 := mj_B5.1
  have m6 : mj_sh 6 = (2, 3) := mj_B5.2.1
  have m52 := s_52
  have hR : RB I 5 (I 314) := hc.1.1
  have hI : IV (I 314) := hc.1.2.1
  refine mj_enter (by decide +kernel) (Nat.le_of_ble_eq_true rfl) ?_
  refine J_ild S_X9_count rfl rfl ?_
  refine J_if S_X9_count rfl (fun c1 => False.elim (absurd c1 (by decide))) (fun c1 => ?_)
  refine J_ild S_X9_count rfl rfl ?_
  refine J_C S_X9_count rfl ?_
  refine J_cmp S_X9_count rfl (fun c7 => ?_) (fun c7 => False.elim (c7 (by decide)))
  refine J_ald S_X9_count rfl rfl ?_
  refine J_getR S_X9_count rfl (o' := 4) (by assumption) (by omega) rfl ?_
  refine J_getR S_X9_count rfl (o' := 5) (by assumption) (by omega) rfl ?_
  refine J_ast S_X9_count rfl rfl ?_
  refine J_ild S_X9_count rfl rfl ?_
  refine J_sw S_X9_count rfl ⟨fun c => False.elim (by revert c; decide), fun _ => ⟨fun _ => ?_, fun c => False.elim (by revert c; decide)⟩⟩
  refine J_ald S_X9_count rfl rfl ?_
  refine J_C S_X9_count rfl ?_
  refine J_CVx S_X9_count rfl rfl (by assumption) (by omega) (by simp) (C_X0_setOf mj_B5 hR hI (w := 0) (by decide)) rfl ?_
  refine J_CSx S_X9_count rfl rfl (by simp) (C_J6_bitCount) rfl ?_
  refine J_retI S_X9_count rfl ?_
  rw [bc_nV hI]; exact ⟨rfl, rfl⟩
theorem X10_count_1 {n L : Nat} (hI : IV (I 314)) (h2 : I 313 2 = nI n) (h4 : I 313 4 = nI L) : mj_R D_X10_count [.inr (some 313), .inl (nI 1)] (mj_w I) (mj_ex (some (.inl (nI (nV (I 314) (tn (I 314 1)))))) I) := by
  have m0 := s_313
  have m1 := s_314
  refine mj_enter (by decide +kernel) (Nat.le_of_ble_eq_true rfl) ?_
  refine J_ild S_X10_count rfl rfl ?_
  refine J_sw S_X10_count rfl ⟨fun c => False.elim (by revert c; decide), fun _ => ⟨fun _ => ?_, fun c => False.elim (by revert c; decide)⟩⟩
  refine J_ald S_X10_count rfl rfl ?_
  refine J_CVx S_X10_count rfl rfl (by assumption) (by omega) (by simp) (C_X10_views hI) rfl ?_
  refine J_retI S_X10_count rfl ?_
  exact ⟨rfl, rfl⟩
theorem X9_count_2 {o n L : Nat} (hc : CR I (I 314) (I 315) o n L (I 316)) : mj_R D_X9_count [.inr (some 0), .inl (nI 2)] (mj_w I) (mj_ex (some (.inl (I 314 1))) I) := by
  have m0 := s_0
  have m1 := s_1
  have m2 := s_2
  have m4 := mj_S4.1
  have m5 := mj_B5.1
  have m6 : mj_sh 6 = (2, 3) := mj_B5.2.1
  have m52 := s_52
  have hR : RB I 5 (I 314) := hc.1.1
  have hI : IV (I 314) := hc.1.2.1
  refine mj_enter (by decide +kernel) (Nat.le_of_ble_eq_true rfl) ?_
  refine J_ild S_X9_count rfl rfl ?_
  refine J_if S_X9_count rfl (fun c1 => False.elim (absurd c1 (by decide))) (fun c1 => ?_)
  refine J_ild S_X9_count rfl rfl ?_
  refine J_C S_X9_count rfl ?_
  refine J_cmp S_X9_count rfl (fun c7 => ?_) (fun c7 => False.elim (c7 (by decide)))
  refine J_ald S_X9_count rfl rfl ?_
  refine J_getR S_X9_count rfl (o' := 4) (by assumption) (by omega) rfl ?_
  refine J_getR S_X9_count rfl (o' := 5) (by assumption) (by omega) rfl ?_
  refine J_ast S_X9_count rfl rfl ?_
  refine J_ild S_X9_count rfl rfl ?_
  refine J_sw S_X9_count rfl ⟨fun c => False.elim (by revert c; decide), fun _ => ⟨fun c => False.elim (by revert c; decide), fun _ => ⟨fun _ => ?_, fun c => False.elim (by revert c; decide)⟩⟩⟩
  refine J_ald S_X9_count rfl rfl ?_
  refine J_getI S_X9_count rfl (by assumption) (by omega) ?_
  refine J_retI S_X9_count rfl ?_
  rw [show I 5 4 = I 314 1 from hR.2.1 0 (by decide)]; exact ⟨rfl, rfl⟩
theorem X10_count_2 {n L : Nat} (hI : IV (I 314)) (h2 : I 313 2 = nI n) (h4 : I 313 4 = nI L) : mj_R D_X10_count [.inr (some 313), .inl (nI 2)] (mj_w I) (mj_ex (some (.inl (I 314 1))) I) := by
  have m0 := s_313
  have m1 := s_314
  refine mj_enter (by decide +kernel) (Nat.le_of_ble_eq_true rfl) ?_
  refine J_ild S_X10_count rfl rfl ?_
  refine J_sw S_X10_count rfl ⟨fun c => False.elim (by revert c; decide), fun _ => ⟨fun c => False.elim (by revert c; decide), fun _ => ⟨fun _ => ?_, fun c => False.elim (by revert c; decide)⟩⟩⟩
  refine J_ald S_X10_count rfl rfl ?_
  refine J_getR S_X10_count rfl (o' := 314) (by assumption) (by omega) rfl ?_
  refine J_C S_X10_count rfl ?_
  refine J_iald S_X10_count rfl (by assumption) (by omega) (j := 1) rfl (by omega) (by decide) ?_
  refine J_retI S_X10_count rfl ?_
  exact ⟨rfl, rfl⟩
theorem X9_count_3 {o n L : Nat} (hc : CR I (I 314) (I 315) o n L (I 316)) : mj_R D_X9_count [.inr (some 0), .inl (nI 3)] (mj_w I) (mj_ex (some (.inl (nI (msk (fun k => ex (I 314) k && bel (I 314) 0 k) 8)))) I) := by
  have m0 := s_0
  have m1 := s_1
  have m2 := s_2
  have m4 := mj_S4.1
  have m5 := mj_B5.1
  have m6 : mj_sh 6 = (2, 3) := mj_B5.2.1
  have m52 := s_52
  have hR : RB I 5 (I 314) := hc.1.1
  have hI : IV (I 314) := hc.1.2.1
  refine mj_enter (by decide +kernel) (Nat.le_of_ble_eq_true rfl) ?_
  refine J_ild S_X9_count rfl rfl ?_
  refine J_if S_X9_count rfl (fun c1 => False.elim (absurd c1 (by decide))) (fun c1 => ?_)
  refine J_ild S_X9_count rfl rfl ?_
  refine J_C S_X9_count rfl ?_
  refine J_cmp S_X9_count rfl (fun c7 => ?_) (fun c7 => False.elim (c7 (by decide)))
  refine J_ald S_X9_count rfl rfl ?_
  refine J_getR S_X9_count rfl (o' := 4) (by assumption) (by omega) rfl ?_
  refine J_getR S_X9_count rfl (o' := 5) (by assumption) (by omega) rfl ?_
  refine J_ast S_X9_count rfl rfl ?_
  refine J_ild S_X9_count rfl rfl ?_
  refine J_sw S_X9_count rfl ⟨fun c => False.elim (by revert c; decide), fun _ => ⟨fun c => False.elim (by revert c; decide), fun _ => ⟨fun c => False.elim (by revert c; decide), fun _ => ⟨fun _ => ?_, fun c => False.elim (by revert c; decide)⟩⟩⟩⟩
  refine J_ald S_X9_count rfl rfl ?_
  refine J_C S_X9_count rfl ?_
  refine J_CVx S_X9_count rfl rfl (by assumption) (by omega) (by simp) (C_X0_setOf mj_B5 hR hI (w := 0) (by decide)) rfl ?_
  refine J_retI S_X9_count rfl ?_
  exact ⟨rfl, rfl⟩
theorem X10_count_3 {n L : Nat} (hI : IV (I 314)) (h2 : I 313 2 = nI n) (h4 : I 313 4 = nI L) : mj_R D_X10_count [.inr (some 313), .inl (nI 3)] (mj_w I) (mj_ex (some (.inl (nI (msk (fun k => ex (I 314) k && bel (I 314) 0 k) 8)))) I) := by
  have m0 := s_313
  have m1 := s_314
  refine mj_enter (by decide +kernel) (Nat.le_of_ble_eq_true rfl) ?_
  refine J_ild S_X10_count rfl rfl ?_
  refine J_sw S_X10_count rfl ⟨fun c => False.elim (by revert c; decide), fun _ => ⟨fun c => False.elim (by revert c; decide), fun _ => ⟨fun c => False.elim (by revert c; decide), fun _ => ⟨fun _ => ?_, fun c => False.elim (by revert c; decide)⟩⟩⟩⟩
  refine J_ald S_X10_count rfl rfl ?_
  refine J_C S_X10_count rfl ?_
  refine J_CVx S_X10_count rfl rfl (by assumption) (by omega) (by simp) (C_X10_setOf hI (wh := 3) (w := 0) (by decide)) rfl ?_
  refine J_retI S_X10_count rfl ?_
  exact ⟨rfl, rfl⟩
theorem X9_count_4 {o n L : Nat} (hc : CR I (I 314) (I 315) o n L (I 316)) : mj_R D_X9_count [.inr (some 0), .inl (nI 4)] (mj_w I) (mj_ex (some (.inl (nI (msk (fun k => ex (I 314) k && bel (I 314) 1 k) 8)))) I) := by
  have m0 := s_0
  have m1 := s_1
  have m2 := s_2
  have m4 := mj_S4.1
  have m5 := mj_B5.1
  have m6 : mj_sh 6 = (2, 3) := mj_B5.2.1
  have m52 := s_52
  have hR : RB I 5 (I 314) := hc.1.1
  have hI : IV (I 314) := hc.1.2.1
  refine mj_enter (by decide +kernel) (Nat.le_of_ble_eq_true rfl) ?_
  refine J_ild S_X9_count rfl rfl ?_
  refine J_if S_X9_count rfl (fun c1 => False.elim (absurd c1 (by decide))) (fun c1 => ?_)
  refine J_ild S_X9_count rfl rfl ?_
  refine J_C S_X9_count rfl ?_
  refine J_cmp S_X9_count rfl (fun c7 => ?_) (fun c7 => False.elim (c7 (by decide)))
  refine J_ald S_X9_count rfl rfl ?_
  refine J_getR S_X9_count rfl (o' := 4) (by assumption) (by omega) rfl ?_
  refine J_getR S_X9_count rfl (o' := 5) (by assumption) (by omega) rfl ?_
  refine J_ast S_X9_count rfl rfl ?_
  refine J_ild S_X9_count rfl rfl ?_
  refine J_sw S_X9_count rfl ⟨fun c => False.elim (by revert c; decide), fun _ => ⟨fun c => False.elim (by revert c; decide), fun _ => ⟨fun c => False.elim (by revert c; decide), fun _ => ⟨fun c => False.elim (by revert c; decide), fun _ => ⟨fun _ => ?_, fun c => False.elim (by revert c; decide)⟩⟩⟩⟩⟩
  refine J_ald S_X9_count rfl rfl ?_
  refine J_C S_X9_count rfl ?_
  refine J_CVx S_X9_count rfl rfl (by assumption) (by omega) (by simp) (C_X0_setOf mj_B5 hR hI (w := 1) (by decide)) rfl ?_
  refine J_retI S_X9_count rfl ?_
  exact ⟨rfl, rfl⟩
theorem X10_count_4 {n L : Nat} (hI : IV (I 314)) (h2 : I 313 2 = nI n) (h4 : I 313 4 = nI L) : mj_R D_X10_count [.inr (some 313), .inl (nI 4)] (mj_w I) (mj_ex (some (.inl (nI (msk (fun k => ex (I 314) k && bel (I 314) 1 k) 8)))) I) := by
  have m0 := s_313
  have m1 := s_314
  refine mj_enter (by decide +kernel) (Nat.le_of_ble_eq_true rfl) ?_
  refine J_ild S_X10_count rfl rfl ?_
  refine J_sw S_X10_count rfl ⟨fun c => False.elim (by revert c; decide), fun _ => ⟨fun c => False.elim (by revert c; decide), fun _ => ⟨fun c => False.elim (by revert c; decide), fun _ => ⟨fun c => False.elim (by revert c; decide), fun _ => ⟨fun _ => ?_, fun c => False.elim (by revert c; decide)⟩⟩⟩⟩⟩
  refine J_ald S_X10_count rfl rfl ?_
  refine J_C S_X10_count rfl ?_
  refine J_CVx S_X10_count rfl rfl (by assumption) (by omega) (by simp) (C_X10_setOf hI (wh := 4) (w := 1) (by decide)) rfl ?_
  refine J_retI S_X10_count rfl ?_
  exact ⟨rfl, rfl⟩
theorem X9_count_5 {o n L : Nat} (hc : CR I (I 314) (I 315) o n L (I 316)) : mj_R D_X9_count [.inr (some 0), .inl (nI 5)] (mj_w I) (mj_ex (some (.inl (nI (msk (fun k => ex (I 314) k && bel (I 314) 3 k) 8)))) I) := by
  have m0 := s_0
  have m1 := s_1
  have m2 := s_2
  have m4 := mj_S4.1
  have m5 := mj_B5.1
  have m6 : mj_sh 6 = (2, 3) := mj_B5.2.1
  have m52 := s_52
  have hR : RB I 5 (I 314) := hc.1.1
  have hI : IV (I 314) := hc.1.2.1
  refine mj_enter (by decide +kernel) (Nat.le_of_ble_eq_true rfl) ?_
  refine J_ild S_X9_count rfl rfl ?_
  refine J_if S_X9_count rfl (fun c1 => False.elim (absurd c1 (by decide))) (fun c1 => ?_)
  refine J_ild S_X9_count rfl rfl ?_
  refine J_C S_X9_count rfl ?_
  refine J_cmp S_X9_count rfl (fun c7 => ?_) (fun c7 => False.elim (c7 (by decide)))
  refine J_ald S_X9_count rfl rfl ?_
  refine J_getR S_X9_count rfl (o' := 4) (by assumption) (by omega) rfl ?_
  refine J_getR S_X9_count rfl (o' := 5) (by assumption) (by omega) rfl ?_
  refine J_ast S_X9_count rfl rfl ?_
  refine J_ild S_X9_count rfl rfl ?_
  refine J_sw S_X9_count rfl ⟨fun c => False.elim (by revert c; decide), fun _ => ⟨fun c => False.elim (by revert c; decide), fun _ => ⟨fun c => False.elim (by revert c; decide), fun _ => ⟨fun c => False.elim (by revert c; decide), fun _ => ⟨fun c => False.elim (by revert c; decide), fun _ => ⟨fun _ => ?_, fun c => False.elim (by revert c; decide)⟩⟩⟩⟩⟩⟩
  refine J_ald S_X9_count rfl rfl ?_
  refine J_C S_X9_count rfl ?_
  refine J_CVx S_X9_count rfl rfl (by assumption) (by omega) (by simp) (C_X0_setOf mj_B5 hR hI (w := 3) (by decide)) rfl ?_
  refine J_retI S_X9_count rfl ?_
  exact ⟨rfl, rfl⟩
theorem X10_count_5 {n L : Nat} (hI : IV (I 314)) (h2 : I 313 2 = nI n) (h4 : I 313 4 = nI L) : mj_R D_X10_count [.inr (some 313), .inl (nI 5)] (mj_w I) (mj_ex (some (.inl (nI (msk (fun k => ex (I 314) k && bel (I 314) 3 k) 8)))) I) := by
  have m0 := s_313
  have m1 := s_314
  refine mj_enter (by decide +kernel) (Nat.le_of_ble_eq_true rfl) ?_
  refine J_ild S_X10_count rfl rfl ?_
  refine J_sw S_X10_count rfl ⟨fun c => False.elim (by revert c; decide), fun _ => ⟨fun c => False.elim (by revert c; decide), fun _ => ⟨fun c => False.elim (by revert c; decide), fun _ => ⟨fun c => False.elim (by revert c; decide), fun _ => ⟨fun c => False.elim (by revert c; decide), fun _ => ⟨fun _ => ?_, fun c => False.elim (by revert c; decide)⟩⟩⟩⟩⟩⟩
  refine J_ald S_X10_count rfl rfl ?_
  refine J_C S_X10_count rfl ?_
  refine J_CVx S_X10_count rfl rfl (by assumption) (by omega) (by simp) (C_X10_setOf hI (wh := 5) (w := 3) (by decide)) rfl ?_
  refine J_retI S_X10_count rfl ?_
  exact ⟨rfl, rfl⟩
theorem X9_count_6 {o n L : Nat} (hc : CR I (I 314) (I 315) o n L (I 316)) : mj_R D_X9_count [.inr (some 0), .inl (nI 6)] (mj_w I) (mj_ex (some (.inl (I 314 2))) I) := by
  have m0 := s_0
  have m1 := s_1
  have m2 := s_2
  have m4 := mj_S4.1
  have m5 := mj_B5.1
  have m6 : mj_sh 6 = (2, 3) := mj_B5.2.1
  have m52 := s_52
  have hR : RB I 5 (I 314) := hc.1.1
  have hI : IV (I 314) := hc.1.2.1
  refine mj_enter (by decide +kernel) (Nat.le_of_ble_eq_true rfl) ?_
  refine J_ild S_X9_count rfl rfl ?_
  refine J_if S_X9_count rfl (fun c1 => False.elim (absurd c1 (by decide))) (fun c1 => ?_)
  refine J_ild S_X9_count rfl rfl ?_
  refine J_C S_X9_count rfl ?_
  refine J_cmp S_X9_count rfl (fun c7 => ?_) (fun c7 => False.elim (c7 (by decide)))
  refine J_ald S_X9_count rfl rfl ?_
  refine J_getR S_X9_count rfl (o' := 4) (by assumption) (by omega) rfl ?_
  refine J_getR S_X9_count rfl (o' := 5) (by assumption) (by omega) rfl ?_
  refine J_ast S_X9_count rfl rfl ?_
  refine J_ild S_X9_count rfl rfl ?_
  refine J_sw S_X9_count rfl ⟨fun c => False.elim (by revert c; decide), fun _ => ⟨fun c => False.elim (by revert c; decide), fun _ => ⟨fun c => False.elim (by revert c; decide), fun _ => ⟨fun c => False.elim (by revert c; decide), fun _ => ⟨fun c => False.elim (by revert c; decide), fun _ => ⟨fun c => False.elim (by revert c; decide), fun _ => ⟨fun _ => ?_, fun c => False.elim (by revert c; decide)⟩⟩⟩⟩⟩⟩⟩
  refine J_ald S_X9_count rfl rfl ?_
  refine J_getI S_X9_count rfl (by assumption) (by omega) ?_
  refine J_retI S_X9_count rfl ?_
  rw [show I 5 5 = I 314 2 from hR.2.1 1 (by decide)]; exact ⟨rfl, rfl⟩
theorem X10_count_6 {n L : Nat} (hI : IV (I 314)) (h2 : I 313 2 = nI n) (h4 : I 313 4 = nI L) : mj_R D_X10_count [.inr (some 313), .inl (nI 6)] (mj_w I) (mj_ex (some (.inl (I 314 2))) I) := by
  have m0 := s_313
  have m1 := s_314
  refine mj_enter (by decide +kernel) (Nat.le_of_ble_eq_true rfl) ?_
  refine J_ild S_X10_count rfl rfl ?_
  refine J_sw S_X10_count rfl ⟨fun c => False.elim (by revert c; decide), fun _ => ⟨fun c => False.elim (by revert c; decide), fun _ => ⟨fun c => False.elim (by revert c; decide), fun _ => ⟨fun c => False.elim (by revert c; decide), fun _ => ⟨fun c => False.elim (by revert c; decide), fun _ => ⟨fun c => False.elim (by revert c; decide), fun _ => ⟨fun _ => ?_, fun c => False.elim (by revert c; decide)⟩⟩⟩⟩⟩⟩⟩
  refine J_ild S_X10_count rfl rfl ?_
  refine J_C S_X10_count rfl ?_
  refine J_C S_X10_count rfl ?_
  refine J_CSx S_X10_count rfl rfl (by simp) (in_t (by decide)) rfl ?_
  refine J_if S_X10_count rfl (fun c172 => False.elim (absurd c172 (by decide))) (fun c172 => ?_)
  refine J_ald S_X10_count rfl rfl ?_
  refine J_getR S_X10_count rfl (o' := 314) (by assumption) (by omega) rfl ?_
  refine J_C S_X10_count rfl ?_
  refine J_ild S_X10_count rfl rfl ?_
  refine J_bin S_X10_count rfl ?_
  refine J_C S_X10_count rfl ?_
  refine J_bin S_X10_count rfl ?_
  refine J_iald S_X10_count rfl (by assumption) (by omega) (j := 2) (by decide) (by omega) (by decide) ?_
  refine J_goto S_X10_count rfl ?_
  refine J_retI S_X10_count rfl ?_
  exact ⟨rfl, rfl⟩
theorem X9_count_7 {o n L : Nat} (hc : CR I (I 314) (I 315) o n L (I 316)) : mj_R D_X9_count [.inr (some 0), .inl (nI 7)] (mj_w I) (mj_ex (some (.inl (I 314 3))) I) := by
  have m0 := s_0
  have m1 := s_1
  have m2 := s_2
  have m4 := mj_S4.1
  have m5 := mj_B5.1
  have m6 : mj_sh 6 = (2, 3) := mj_B5.2.1
  have m52 := s_52
  have hR : RB I 5 (I 314) := hc.1.1
  have hI : IV (I 314) := hc.1.2.1
  refine mj_enter (by decide +kernel) (Nat.le_of_ble_eq_true rfl) ?_
  refine J_ild S_X9_count rfl rfl ?_
  refine J_if S_X9_count rfl (fun c1 => False.elim (absurd c1 (by decide))) (fun c1 => ?_)
  refine J_ild S_X9_count rfl rfl ?_
  refine J_C S_X9_count rfl ?_
  refine J_cmp S_X9_count rfl (fun c7 => ?_) (fun c7 => False.elim (c7 (by decide)))
  refine J_ald S_X9_count rfl rfl ?_
  refine J_getR S_X9_count rfl (o' := 4) (by assumption) (by omega) rfl ?_
  refine J_getR S_X9_count rfl (o' := 5) (by assumption) (by omega) rfl ?_
  refine J_ast S_X9_count rfl rfl ?_
  refine J_ild S_X9_count rfl rfl ?_
  refine J_sw S_X9_count rfl ⟨fun c => False.elim (by revert c; decide), fun _ => ⟨fun c => False.elim (by revert c; decide), fun _ => ⟨fun c => False.elim (by revert c; decide), fun _ => ⟨fun c => False.elim (by revert c; decide), fun _ => ⟨fun c => False.elim (by revert c; decide), fun _ => ⟨fun c => False.elim (by revert c; decide), fun _ => ⟨fun c => False.elim (by revert c; decide), fun _ => ⟨fun _ => ?_, fun c => False.elim (by revert c; decide)⟩⟩⟩⟩⟩⟩⟩⟩
  refine J_ald S_X9_count rfl rfl ?_
  refine J_getI S_X9_count rfl (by assumption) (by omega) ?_
  refine J_retI S_X9_count rfl ?_
  rw [show I 5 6 = I 314 3 from hR.2.1 2 (by decide)]; exact ⟨rfl, rfl⟩
theorem X10_count_7 {n L : Nat} (hI : IV (I 314)) (h2 : I 313 2 = nI n) (h4 : I 313 4 = nI L) : mj_R D_X10_count [.inr (some 313), .inl (nI 7)] (mj_w I) (mj_ex (some (.inl (I 314 3))) I) := by
  have m0 := s_313
  have m1 := s_314
  refine mj_enter (by decide +kernel) (Nat.le_of_ble_eq_true rfl) ?_
  refine J_ild S_X10_count rfl rfl ?_
  refine J_sw S_X10_count rfl ⟨fun c => False.elim (by revert c; decide), fun _ => ⟨fun c => False.elim (by revert c; decide), fun _ => ⟨fun c => False.elim (by revert c; decide), fun _ => ⟨fun c => False.elim (by revert c; decide), fun _ => ⟨fun c => False.elim (by revert c; decide), fun _ => ⟨fun c => False.elim (by revert c; decide), fun _ => ⟨fun c => False.elim (by revert c; decide), fun _ => ⟨fun _ => ?_, fun c => False.elim (by revert c; decide)⟩⟩⟩⟩⟩⟩⟩⟩
  refine J_ild S_X10_count rfl rfl ?_
  refine J_C S_X10_count rfl ?_
  refine J_C S_X10_count rfl ?_
  refine J_CSx S_X10_count rfl rfl (by simp) (in_t (by decide)) rfl ?_
  refine J_if S_X10_count rfl (fun c172 => False.elim (absurd c172 (by decide))) (fun c172 => ?_)
  refine J_ald S_X10_count rfl rfl ?_
  refine J_getR S_X10_count rfl (o' := 314) (by assumption) (by omega) rfl ?_
  refine J_C S_X10_count rfl ?_
  refine J_ild S_X10_count rfl rfl ?_
  refine J_bin S_X10_count rfl ?_
  refine J_C S_X10_count rfl ?_
  refine J_bin S_X10_count rfl ?_
  refine J_iald S_X10_count rfl (by assumption) (by omega) (j := 3) (by decide) (by omega) (by decide) ?_
  refine J_goto S_X10_count rfl ?_
  refine J_retI S_X10_count rfl ?_
  exact ⟨rfl, rfl⟩
theorem X9_count_8 {o n L : Nat} (hc : CR I (I 314) (I 315) o n L (I 316)) : mj_R D_X9_count [.inr (some 0), .inl (nI 8)] (mj_w I) (mj_ex (some (.inl (I 314 4))) I) := by
  have m0 := s_0
  have m1 := s_1
  have m2 := s_2
  have m4 := mj_S4.1
  have m5 := mj_B5.1
  have m6 : mj_sh 6 = (2, 3) := mj_B5.2.1
  have m52 := s_52
  have hR : RB I 5 (I 314) := hc.1.1
  have hI : IV (I 314) := hc.1.2.1
  refine mj_enter (by decide +kernel) (Nat.le_of_ble_eq_true rfl) ?_
  refine J_ild S_X9_count rfl rfl ?_
  refine J_if S_X9_count rfl (fun c1 => False.elim (absurd c1 (by decide))) (fun c1 => ?_)
  refine J_ild S_X9_count rfl rfl ?_
  refine J_C S_X9_count rfl ?_
  refine J_cmp S_X9_count rfl (fun c7 => ?_) (fun c7 => False.elim (c7 (by decide)))
  refine J_ald S_X9_count rfl rfl ?_
  refine J_getR S_X9_count rfl (o' := 4) (by assumption) (by omega) rfl ?_
  refine J_getR S_X9_count rfl (o' := 5) (by assumption) (by omega) rfl ?_
  refine J_ast S_X9_count rfl rfl ?_
  refine J_ild S_X9_count rfl rfl ?_
  refine J_sw S_X9_count rfl ⟨fun c => False.elim (by revert c; decide), fun _ => ⟨fun c => False.elim (by revert c; decide), fun _ => ⟨fun c => False.elim (by revert c; decide), fun _ => ⟨fun c => False.elim (by revert c; decide), fun _ => ⟨fun c => False.elim (by revert c; decide), fun _ => ⟨fun c => False.elim (by revert c; decide), fun _ => ⟨fun c => False.elim (by revert c; decide), fun _ => ⟨fun c => False.elim (by revert c; decide), fun _ => ⟨fun _ => ?_, fun c => False.elim (by revert c; decide)⟩⟩⟩⟩⟩⟩⟩⟩⟩
  refine J_ald S_X9_count rfl rfl ?_
  refine J_getI S_X9_count rfl (by assumption) (by omega) ?_
  refine J_retI S_X9_count rfl ?_
  rw [show I 5 7 = I 314 4 from hR.2.1 3 (by decide)]; exact ⟨rfl, rfl⟩
theorem X10_count_8 {n L : Nat} (hI : IV (I 314)) (h2 : I 313 2 = nI n) (h4 : I 313 4 = nI L) : mj_R D_X10_count [.inr (some 313), .inl (nI 8)] (mj_w I) (mj_ex (some (.inl (I 314 4))) I) := by
  have m0 := s_313
  have m1 := s_314
  refine mj_enter (by decide +kernel) (Nat.le_of_ble_eq_true rfl) ?_
  refine J_ild S_X10_count rfl rfl ?_
  refine J_sw S_X10_count rfl ⟨fun c => False.elim (by revert c; decide), fun _ => ⟨fun c => False.elim (by revert c; decide), fun _ => ⟨fun c => False.elim (by revert c; decide), fun _ => ⟨fun c => False.elim (by revert c; decide), fun _ => ⟨fun c => False.elim (by revert c; decide), fun _ => ⟨fun c => False.elim (by revert c; decide), fun _ => ⟨fun c => False.elim (by revert c; decide), fun _ => ⟨fun c => False.elim (by revert c; decide), fun _ => ⟨fun _ => ?_, fun c => False.elim (by revert c; decide)⟩⟩⟩⟩⟩⟩⟩⟩⟩
  refine J_ild S_X10_count rfl rfl ?_
  refine J_C S_X10_count rfl ?_
  refine J_C S_X10_count rfl ?_
  refine J_CSx S_X10_count rfl rfl (by simp) (in_t (by decide)) rfl ?_
  refine J_if S_X10_count rfl (fun c172 => False.elim (absurd c172 (by decide))) (fun c172 => ?_)
  refine J_ald S_X10_count rfl rfl ?_
  refine J_getR S_X10_count rfl (o' := 314) (by assumption) (by omega) rfl ?_
  refine J_C S_X10_count rfl ?_
  refine J_ild S_X10_count rfl rfl ?_
  refine J_bin S_X10_count rfl ?_
  refine J_C S_X10_count rfl ?_
  refine J_bin S_X10_count rfl ?_
  refine J_iald S_X10_count rfl (by assumption) (by omega) (j := 4) (by decide) (by omega) (by decide) ?_
  refine J_goto S_X10_count rfl ?_
  refine J_retI S_X10_count rfl ?_
  exact ⟨rfl, rfl⟩
theorem X9_count_9 {o n L : Nat} (hc : CR I (I 314) (I 315) o n L (I 316)) : mj_R D_X9_count [.inr (some 0), .inl (nI 9)] (mj_w I) (mj_ex (some (.inl (I 314 5))) I) := by
  have m0 := s_0
  have m1 := s_1
  have m2 := s_2
  have m4 := mj_S4.1
  have m5 := mj_B5.1
  have m6 : mj_sh 6 = (2, 3) := mj_B5.2.1
  have m52 := s_52
  have hR : RB I 5 (I 314) := hc.1.1
  have hI : IV (I 314) := hc.1.2.1
  refine mj_enter (by decide +kernel) (Nat.le_of_ble_eq_true rfl) ?_
  refine J_ild S_X9_count rfl rfl ?_
  refine J_if S_X9_count rfl (fun c1 => False.elim (absurd c1 (by decide))) (fun c1 => ?_)
  refine J_ild S_X9_count rfl rfl ?_
  refine J_C S_X9_count rfl ?_
  refine J_cmp S_X9_count rfl (fun c7 => ?_) (fun c7 => False.elim (c7 (by decide)))
  refine J_ald S_X9_count rfl rfl ?_
  refine J_getR S_X9_count rfl (o' := 4) (by assumption) (by omega) rfl ?_
  refine J_getR S_X9_count rfl (o' := 5) (by assumption) (by omega) rfl ?_
  refine J_ast S_X9_count rfl rfl ?_
  refine J_ild S_X9_count rfl rfl ?_
  refine J_sw S_X9_count rfl ⟨fun c => False.elim (by revert c; decide), fun _ => ⟨fun c => False.elim (by revert c; decide), fun _ => ⟨fun c => False.elim (by revert c; decide), fun _ => ⟨fun c => False.elim (by revert c; decide), fun _ => ⟨fun c => False.elim (by revert c; decide), fun _ => ⟨fun c => False.elim (by revert c; decide), fun _ => ⟨fun c => False.elim (by revert c; decide), fun _ => ⟨fun c => False.elim (by revert c; decide), fun _ => ⟨fun c => False.elim (by revert c; decide), fun _ => ⟨fun _ => ?_, fun c => False.elim (by revert c; decide)⟩⟩⟩⟩⟩⟩⟩⟩⟩⟩
  refine J_ald S_X9_count rfl rfl ?_
  refine J_getI S_X9_count rfl (by assumption) (by omega) ?_
  refine J_retI S_X9_count rfl ?_
  rw [show I 5 8 = I 314 5 from hR.2.1 4 (by decide)]; exact ⟨rfl, rfl⟩
theorem X10_count_9 {n L : Nat} (hI : IV (I 314)) (h2 : I 313 2 = nI n) (h4 : I 313 4 = nI L) : mj_R D_X10_count [.inr (some 313), .inl (nI 9)] (mj_w I) (mj_ex (some (.inl (I 314 5))) I) := by
  have m0 := s_313
  have m1 := s_314
  refine mj_enter (by decide +kernel) (Nat.le_of_ble_eq_true rfl) ?_
  refine J_ild S_X10_count rfl rfl ?_
  refine J_sw S_X10_count rfl ⟨fun c => False.elim (by revert c; decide), fun _ => ⟨fun c => False.elim (by revert c; decide), fun _ => ⟨fun c => False.elim (by revert c; decide), fun _ => ⟨fun c => False.elim (by revert c; decide), fun _ => ⟨fun c => False.elim (by revert c; decide), fun _ => ⟨fun c => False.elim (by revert c; decide), fun _ => ⟨fun c => False.elim (by revert c; decide), fun _ => ⟨fun c => False.elim (by revert c; decide), fun _ => ⟨fun c => False.elim (by revert c; decide), fun _ => ⟨fun _ => ?_, fun c => False.elim (by revert c; decide)⟩⟩⟩⟩⟩⟩⟩⟩⟩⟩
  refine J_ild S_X10_count rfl rfl ?_
  refine J_C S_X10_count rfl ?_
  refine J_C S_X10_count rfl ?_
  refine J_CSx S_X10_count rfl rfl (by simp) (in_t (by decide)) rfl ?_
  refine J_if S_X10_count rfl (fun c172 => False.elim (absurd c172 (by decide))) (fun c172 => ?_)
  refine J_ald S_X10_count rfl rfl ?_
  refine J_getR S_X10_count rfl (o' := 314) (by assumption) (by omega) rfl ?_
  refine J_C S_X10_count rfl ?_
  refine J_ild S_X10_count rfl rfl ?_
  refine J_bin S_X10_count rfl ?_
  refine J_C S_X10_count rfl ?_
  refine J_bin S_X10_count rfl ?_
  refine J_iald S_X10_count rfl (by assumption) (by omega) (j := 5) (by decide) (by omega) (by decide) ?_
  refine J_goto S_X10_count rfl ?_
  refine J_retI S_X10_count rfl ?_
  exact ⟨rfl, rfl⟩
theorem X9_count_10 {o n L : Nat} (hc : CR I (I 314) (I 315) o n L (I 316)) : mj_R D_X9_count [.inr (some 0), .inl (nI 10)] (mj_w I) (mj_ex (some (.inl (I 314 6))) I) := by
  have m0 := s_0
  have m1 := s_1
  have m2 := s_2
  have m4 := mj_S4.1
  have m5 := mj_B5.1
  have m6 : mj_sh 6 = (2, 3) := mj_B5.2.1
  have m52 := s_52
  have hR : RB I 5 (I 314) := hc.1.1
  have hI : IV (I 314) := hc.1.2.1
  refine mj_enter (by decide +kernel) (Nat.le_of_ble_eq_true rfl) ?_
  refine J_ild S_X9_count rfl rfl ?_
  refine J_if S_X9_count rfl (fun c1 => False.elim (absurd c1 (by decide))) (fun c1 => ?_)
  refine J_ild S_X9_count rfl rfl ?_
  refine J_C S_X9_count rfl ?_
  refine J_cmp S_X9_count rfl (fun c7 => ?_) (fun c7 => False.elim (c7 (by decide)))
  refine J_ald S_X9_count rfl rfl ?_
  refine J_getR S_X9_count rfl (o' := 4) (by assumption) (by omega) rfl ?_
  refine J_getR S_X9_count rfl (o' := 5) (by assumption) (by omega) rfl ?_
  refine J_ast S_X9_count rfl rfl ?_
  refine J_ild S_X9_count rfl rfl ?_
  refine J_sw S_X9_count rfl ⟨fun c => False.elim (by revert c; decide), fun _ => ⟨fun c => False.elim (by revert c; decide), fun _ => ⟨fun c => False.elim (by revert c; decide), fun _ => ⟨fun c => False.elim (by revert c; decide), fun _ => ⟨fun c => False.elim (by revert c; decide), fun _ => ⟨fun c => False.elim (by revert c; decide), fun _ => ⟨fun c => False.elim (by revert c; decide), fun _ => ⟨fun c => False.elim (by revert c; decide), fun _ => ⟨fun c => False.elim (by revert c; decide), fun _ => ⟨fun c => False.elim (by revert c; decide), fun _ => ⟨fun _ => ?_, fun c => False.elim (by revert c; decide)⟩⟩⟩⟩⟩⟩⟩⟩⟩⟩⟩
  refine J_ald S_X9_count rfl rfl ?_
  refine J_getI S_X9_count rfl (by assumption) (by omega) ?_
  refine J_retI S_X9_count rfl ?_
  rw [show I 5 9 = I 314 6 from hR.2.1 5 (by decide)]; exact ⟨rfl, rfl⟩
theorem X10_count_10 {n L : Nat} (hI : IV (I 314)) (h2 : I 313 2 = nI n) (h4 : I 313 4 = nI L) : mj_R D_X10_count [.inr (some 313), .inl (nI 10)] (mj_w I) (mj_ex (some (.inl (I 314 6))) I) := by
  have m0 := s_313
  have m1 := s_314
  refine mj_enter (by decide +kernel) (Nat.le_of_ble_eq_true rfl) ?_
  refine J_ild S_X10_count rfl rfl ?_
  refine J_sw S_X10_count rfl ⟨fun c => False.elim (by revert c; decide), fun _ => ⟨fun c => False.elim (by revert c; decide), fun _ => ⟨fun c => False.elim (by revert c; decide), fun _ => ⟨fun c => False.elim (by revert c; decide), fun _ => ⟨fun c => False.elim (by revert c; decide), fun _ => ⟨fun c => False.elim (by revert c; decide), fun _ => ⟨fun c => False.elim (by revert c; decide), fun _ => ⟨fun c => False.elim (by revert c; decide), fun _ => ⟨fun c => False.elim (by revert c; decide), fun _ => ⟨fun c => False.elim (by revert c; decide), fun _ => ⟨fun _ => ?_, fun c => False.elim (by revert c; decide)⟩⟩⟩⟩⟩⟩⟩⟩⟩⟩⟩
  refine J_ild S_X10_count rfl rfl ?_
  refine J_C S_X10_count rfl ?_
  refine J_C S_X10_count rfl ?_
  refine J_CSx S_X10_count rfl rfl (by simp) (in_t (by decide)) rfl ?_
  refine J_if S_X10_count rfl (fun c172 => False.elim (absurd c172 (by decide))) (fun c172 => ?_)
  refine J_ald S_X10_count rfl rfl ?_
  refine J_getR S_X10_count rfl (o' := 314) (by assumption) (by omega) rfl ?_
  refine J_C S_X10_count rfl ?_
  refine J_ild S_X10_count rfl rfl ?_
  refine J_bin S_X10_count rfl ?_
  refine J_C S_X10_count rfl ?_
  refine J_bin S_X10_count rfl ?_
  refine J_iald S_X10_count rfl (by assumption) (by omega) (j := 6) (by decide) (by omega) (by decide) ?_
  refine J_goto S_X10_count rfl ?_
  refine J_retI S_X10_count rfl ?_
  exact ⟨rfl, rfl⟩
theorem X9_count_11 {o n L : Nat} (hc : CR I (I 314) (I 315) o n L (I 316)) : mj_R D_X9_count [.inr (some 0), .inl (nI 11)] (mj_w I) (mj_ex (some (.inl (I 314 7))) I) := by
  have m0 := s_0
  have m1 := s_1
  have m2 := s_2
  have m4 := mj_S4.1
  have m5 := mj_B5.1
  have m6 : mj_sh 6 = (2, 3) := mj_B5.2.1
  have m52 := s_52
  have hR : RB I 5 (I 314) := hc.1.1
  have hI : IV (I 314) := hc.1.2.1
  refine mj_enter (by decide +kernel) (Nat.le_of_ble_eq_true rfl) ?_
  refine J_ild S_X9_count rfl rfl ?_
  refine J_if S_X9_count rfl (fun c1 => False.elim (absurd c1 (by decide))) (fun c1 => ?_)
  refine J_ild S_X9_count rfl rfl ?_
  refine J_C S_X9_count rfl ?_
  refine J_cmp S_X9_count rfl (fun c7 => ?_) (fun c7 => False.elim (c7 (by decide)))
  refine J_ald S_X9_count rfl rfl ?_
  refine J_getR S_X9_count rfl (o' := 4) (by assumption) (by omega) rfl ?_
  refine J_getR S_X9_count rfl (o' := 5) (by assumption) (by omega) rfl ?_
  refine J_ast S_X9_count rfl rfl ?_
  refine J_ild S_X9_count rfl rfl ?_
  refine J_sw S_X9_count rfl ⟨fun c => False.elim (by revert c; decide), fun _ => ⟨fun c => False.elim (by revert c; decide), fun _ => ⟨fun c => False.elim (by revert c; decide), fun _ => ⟨fun c => False.elim (by revert c; decide), fun _ => ⟨fun c => False.elim (by revert c; decide), fun _ => ⟨fun c => False.elim (by revert c; decide), fun _ => ⟨fun c => False.elim (by revert c; decide), fun _ => ⟨fun c => False.elim (by revert c; decide), fun _ => ⟨fun c => False.elim (by revert c; decide), fun _ => ⟨fun c => False.elim (by revert c; decide), fun _ => ⟨fun c => False.elim (by revert c; decide), fun _ => ⟨fun _ => ?_, fun c => False.elim (by revert c; decide)⟩⟩⟩⟩⟩⟩⟩⟩⟩⟩⟩⟩
  refine J_ald S_X9_count rfl rfl ?_
  refine J_getI S_X9_count rfl (by assumption) (by omega) ?_
  refine J_retI S_X9_count rfl ?_
  rw [show I 5 10 = I 314 7 from hR.2.1 6 (by decide)]; exact ⟨rfl, rfl⟩
theorem X10_count_11 {n L : Nat} (hI : IV (I 314)) (h2 : I 313 2 = nI n) (h4 : I 313 4 = nI L) : mj_R D_X10_count [.inr (some 313), .inl (nI 11)] (mj_w I) (mj_ex (some (.inl (I 314 7))) I) := by
  have m0 := s_313
  have m1 := s_314
  refine mj_enter (by decide +kernel) (Nat.le_of_ble_eq_true rfl) ?_
  refine J_ild S_X10_count rfl rfl ?_
  refine J_sw S_X10_count rfl ⟨fun c => False.elim (by revert c; decide), fun _ => ⟨fun c => False.elim (by revert c; decide), fun _ => ⟨fun c => False.elim (by revert c; decide), fun _ => ⟨fun c => False.elim (by revert c; decide), fun _ => ⟨fun c => False.elim (by revert c; decide), fun _ => ⟨fun c => False.elim (by revert c; decide), fun _ => ⟨fun c => False.elim (by revert c; decide), fun _ => ⟨fun c => False.elim (by revert c; decide), fun _ => ⟨fun c => False.elim (by revert c; decide), fun _ => ⟨fun c => False.elim (by revert c; decide), fun _ => ⟨fun c => False.elim (by revert c; decide), fun _ => ⟨fun _ => ?_, fun c => False.elim (by revert c; decide)⟩⟩⟩⟩⟩⟩⟩⟩⟩⟩⟩⟩
  refine J_ild S_X10_count rfl rfl ?_
  refine J_C S_X10_count rfl ?_
  refine J_C S_X10_count rfl ?_
  refine J_CSx S_X10_count rfl rfl (by simp) (in_t (by decide)) rfl ?_
  refine J_if S_X10_count rfl (fun c172 => False.elim (absurd c172 (by decide))) (fun c172 => ?_)
  refine J_ald S_X10_count rfl rfl ?_
  refine J_getR S_X10_count rfl (o' := 314) (by assumption) (by omega) rfl ?_
  refine J_C S_X10_count rfl ?_
  refine J_ild S_X10_count rfl rfl ?_
  refine J_bin S_X10_count rfl ?_
  refine J_C S_X10_count rfl ?_
  refine J_bin S_X10_count rfl ?_
  refine J_iald S_X10_count rfl (by assumption) (by omega) (j := 7) (by decide) (by omega) (by decide) ?_
  refine J_goto S_X10_count rfl ?_
  refine J_retI S_X10_count rfl ?_
  exact ⟨rfl, rfl⟩
theorem X9_count_12 {o n L : Nat} (hc : CR I (I 314) (I 315) o n L (I 316)) : mj_R D_X9_count [.inr (some 0), .inl (nI 12)] (mj_w I) (mj_ex (some (.inl (sm (ex (I 314)) (fun k => vk (I 314) k 7) 8))) I) := by
  have m0 := s_0
  have m1 := s_1
  have m2 := s_2
  have m4 := mj_S4.1
  have m5 := mj_B5.1
  have m6 : mj_sh 6 = (2, 3) := mj_B5.2.1
  have m52 := s_52
  have hR : RB I 5 (I 314) := hc.1.1
  have hI : IV (I 314) := hc.1.2.1
  refine mj_enter (by decide +kernel) (Nat.le_of_ble_eq_true rfl) ?_
  refine J_ild S_X9_count rfl rfl ?_
  refine J_if S_X9_count rfl (fun c1 => False.elim (absurd c1 (by decide))) (fun c1 => ?_)
  refine J_ild S_X9_count rfl rfl ?_
  refine J_C S_X9_count rfl ?_
  refine J_cmp S_X9_count rfl (fun c7 => ?_) (fun c7 => False.elim (c7 (by decide)))
  refine J_ald S_X9_count rfl rfl ?_
  refine J_getR S_X9_count rfl (o' := 4) (by assumption) (by omega) rfl ?_
  refine J_getR S_X9_count rfl (o' := 5) (by assumption) (by omega) rfl ?_
  refine J_ast S_X9_count rfl rfl ?_
  refine J_ild S_X9_count rfl rfl ?_
  refine J_sw S_X9_count rfl ⟨fun c => False.elim (by revert c; decide), fun _ => ⟨fun c => False.elim (by revert c; decide), fun _ => ⟨fun c => False.elim (by revert c; decide), fun _ => ⟨fun c => False.elim (by revert c; decide), fun _ => ⟨fun c => False.elim (by revert c; decide), fun _ => ⟨fun c => False.elim (by revert c; decide), fun _ => ⟨fun c => False.elim (by revert c; decide), fun _ => ⟨fun c => False.elim (by revert c; decide), fun _ => ⟨fun c => False.elim (by revert c; decide), fun _ => ⟨fun c => False.elim (by revert c; decide), fun _ => ⟨fun c => False.elim (by revert c; decide), fun _ => ⟨fun c => False.elim (by revert c; decide), fun _ => ⟨fun _ => ?_, fun c => False.elim (by revert c; decide)⟩⟩⟩⟩⟩⟩⟩⟩⟩⟩⟩⟩⟩
  refine J_ald S_X9_count rfl rfl ?_
  refine J_CVx S_X9_count rfl rfl (by assumption) (by omega) (by simp) (C_X0_allDebts mj_B5 hR hI) rfl ?_
  refine J_retI S_X9_count rfl ?_
  exact ⟨rfl, rfl⟩
theorem X10_count_12 {n L : Nat} (hI : IV (I 314)) (h2 : I 313 2 = nI n) (h4 : I 313 4 = nI L) : mj_R D_X10_count [.inr (some 313), .inl (nI 12)] (mj_w I) (mj_ex (some (.inl (sm (ex (I 314)) (fun k => vk (I 314) k 7) 8))) I) := by
  have m0 := s_313
  have m1 := s_314
  refine mj_enter (by decide +kernel) (Nat.le_of_ble_eq_true rfl) ?_
  refine J_ild S_X10_count rfl rfl ?_
  refine J_sw S_X10_count rfl ⟨fun c => False.elim (by revert c; decide), fun _ => ⟨fun c => False.elim (by revert c; decide), fun _ => ⟨fun c => False.elim (by revert c; decide), fun _ => ⟨fun c => False.elim (by revert c; decide), fun _ => ⟨fun c => False.elim (by revert c; decide), fun _ => ⟨fun c => False.elim (by revert c; decide), fun _ => ⟨fun c => False.elim (by revert c; decide), fun _ => ⟨fun c => False.elim (by revert c; decide), fun _ => ⟨fun c => False.elim (by revert c; decide), fun _ => ⟨fun c => False.elim (by revert c; decide), fun _ => ⟨fun c => False.elim (by revert c; decide), fun _ => ⟨fun c => False.elim (by revert c; decide), fun _ => ⟨fun _ => ?_, fun c => False.elim (by revert c; decide)⟩⟩⟩⟩⟩⟩⟩⟩⟩⟩⟩⟩⟩
  refine J_ald S_X10_count rfl rfl ?_
  refine J_CVx S_X10_count rfl rfl (by assumption) (by omega) (by simp) (C_X10_debts hI) rfl ?_
  refine J_retI S_X10_count rfl ?_
  exact ⟨rfl, rfl⟩
theorem X9_count_13 {o n L : Nat} (hc : CR I (I 314) (I 315) o n L (I 316)) : mj_R D_X9_count [.inr (some 0), .inl (nI 13)] (mj_w I) (mj_ex (some (.inl (I 314 8))) I) := by
  have m0 := s_0
  have m1 := s_1
  have m2 := s_2
  have m4 := mj_S4.1
  have m5 := mj_B5.1
  have m6 : mj_sh 6 = (2, 3) := mj_B5.2.1
  have m52 := s_52
  have hR : RB I 5 (I 314) := hc.1.1
  have hI : IV (I 314) := hc.1.2.1
  refine mj_enter (by decide +kernel) (Nat.le_of_ble_eq_true rfl) ?_
  refine J_ild S_X9_count rfl rfl ?_
  refine J_if S_X9_count rfl (fun c1 => False.elim (absurd c1 (by decide))) (fun c1 => ?_)
  refine J_ild S_X9_count rfl rfl ?_
  refine J_C S_X9_count rfl ?_
  refine J_cmp S_X9_count rfl (fun c7 => ?_) (fun c7 => False.elim (c7 (by decide)))
  refine J_ald S_X9_count rfl rfl ?_
  refine J_getR S_X9_count rfl (o' := 4) (by assumption) (by omega) rfl ?_
  refine J_getR S_X9_count rfl (o' := 5) (by assumption) (by omega) rfl ?_
  refine J_ast S_X9_count rfl rfl ?_
  refine J_ild S_X9_count rfl rfl ?_
  refine J_sw S_X9_count rfl ⟨fun c => False.elim (by revert c; decide), fun _ => ⟨fun c => False.elim (by revert c; decide), fun _ => ⟨fun c => False.elim (by revert c; decide), fun _ => ⟨fun c => False.elim (by revert c; decide), fun _ => ⟨fun c => False.elim (by revert c; decide), fun _ => ⟨fun c => False.elim (by revert c; decide), fun _ => ⟨fun c => False.elim (by revert c; decide), fun _ => ⟨fun c => False.elim (by revert c; decide), fun _ => ⟨fun c => False.elim (by revert c; decide), fun _ => ⟨fun c => False.elim (by revert c; decide), fun _ => ⟨fun c => False.elim (by revert c; decide), fun _ => ⟨fun c => False.elim (by revert c; decide), fun _ => ⟨fun c => False.elim (by revert c; decide), fun _ => ⟨fun _ => ?_, fun c => False.elim (by revert c; decide)⟩⟩⟩⟩⟩⟩⟩⟩⟩⟩⟩⟩⟩⟩
  refine J_ald S_X9_count rfl rfl ?_
  refine J_getI S_X9_count rfl (by assumption) (by omega) ?_
  refine J_retI S_X9_count rfl ?_
  rw [show I 5 11 = I 314 8 from hR.2.1 7 (by decide)]; exact ⟨rfl, rfl⟩
theorem X10_count_13 {n L : Nat} (hI : IV (I 314)) (h2 : I 313 2 = nI n) (h4 : I 313 4 = nI L) : mj_R D_X10_count [.inr (some 313), .inl (nI 13)] (mj_w I) (mj_ex (some (.inl (I 314 8))) I) := by
  have m0 := s_313
  have m1 := s_314
  refine mj_enter (by decide +kernel) (Nat.le_of_ble_eq_true rfl) ?_
  refine J_ild S_X10_count rfl rfl ?_
  refine J_sw S_X10_count rfl ⟨fun c => False.elim (by revert c; decide), fun _ => ⟨fun c => False.elim (by revert c; decide), fun _ => ⟨fun c => False.elim (by revert c; decide), fun _ => ⟨fun c => False.elim (by revert c; decide), fun _ => ⟨fun c => False.elim (by revert c; decide), fun _ => ⟨fun c => False.elim (by revert c; decide), fun _ => ⟨fun c => False.elim (by revert c; decide), fun _ => ⟨fun c => False.elim (by revert c; decide), fun _ => ⟨fun c => False.elim (by revert c; decide), fun _ => ⟨fun c => False.elim (by revert c; decide), fun _ => ⟨fun c => False.elim (by revert c; decide), fun _ => ⟨fun c => False.elim (by revert c; decide), fun _ => ⟨fun c => False.elim (by revert c; decide), fun _ => ⟨fun _ => ?_, fun c => False.elim (by revert c; decide)⟩⟩⟩⟩⟩⟩⟩⟩⟩⟩⟩⟩⟩⟩
  refine J_ald S_X10_count rfl rfl ?_
  refine J_getR S_X10_count rfl (o' := 314) (by assumption) (by omega) rfl ?_
  refine J_C S_X10_count rfl ?_
  refine J_iald S_X10_count rfl (by assumption) (by omega) (j := 8) rfl (by omega) (by decide) ?_
  refine J_retI S_X10_count rfl ?_
  exact ⟨rfl, rfl⟩
theorem X9_count_14 {o n L : Nat} (hc : CR I (I 314) (I 315) o n L (I 316)) : mj_R D_X9_count [.inr (some 0), .inl (nI 14)] (mj_w I) (mj_ex (some (.inl (I 314 687 + I 314 1375))) I) := by
  have m0 := s_0
  have m1 := s_1
  have m2 := s_2
  have m4 := mj_S4.1
  have m5 := mj_B5.1
  have m6 : mj_sh 6 = (2, 3) := mj_B5.2.1
  have m52 := s_52
  have hR : RB I 5 (I 314) := hc.1.1
  have hI : IV (I 314) := hc.1.2.1
  have hsn := C_X5_snapshots (I := I) mj_S4
  obtain ⟨a0, a1, -⟩ := hc.1.2.2.2 0 (by decide)
  obtain ⟨b0, b1, -⟩ := hc.1.2.2.2 1 (by decide)
  have ea : (if I (4 + 17) 0 = 0 then (0 : Int32) else 1) = I 314 687 := by
    rw [a0]
    rcases a1 with e | e
    · rw [e]; decide
    · rw [e]; decide
  have eb : (if I (4 + 17) 1 = 0 then (0 : Int32) else 1) = I 314 1375 := by
    rw [b0]
    rcases b1 with e | e
    · rw [e]; decide
    · rw [e]; decide
  rw [ea, eb] at hsn
  refine mj_enter (by decide +kernel) (Nat.le_of_ble_eq_true rfl) ?_
  refine J_ild S_X9_count rfl rfl ?_
  refine J_if S_X9_count rfl (fun c1 => False.elim (absurd c1 (by decide))) (fun c1 => ?_)
  refine J_ild S_X9_count rfl rfl ?_
  refine J_C S_X9_count rfl ?_
  refine J_cmp S_X9_count rfl (fun c7 => ?_) (fun c7 => False.elim (c7 (by decide)))
  refine J_ald S_X9_count rfl rfl ?_
  refine J_getR S_X9_count rfl (o' := 4) (by assumption) (by omega) rfl ?_
  refine J_getR S_X9_count rfl (o' := 5) (by assumption) (by omega) rfl ?_
  refine J_ast S_X9_count rfl rfl ?_
  refine J_ild S_X9_count rfl rfl ?_
  refine J_sw S_X9_count rfl ⟨fun c => False.elim (by revert c; decide), fun _ => ⟨fun c => False.elim (by revert c; decide), fun _ => ⟨fun c => False.elim (by revert c; decide), fun _ => ⟨fun c => False.elim (by revert c; decide), fun _ => ⟨fun c => False.elim (by revert c; decide), fun _ => ⟨fun c => False.elim (by revert c; decide), fun _ => ⟨fun c => False.elim (by revert c; decide), fun _ => ⟨fun c => False.elim (by revert c; decide), fun _ => ⟨fun c => False.elim (by revert c; decide), fun _ => ⟨fun c => False.elim (by revert c; decide), fun _ => ⟨fun c => False.elim (by revert c; decide), fun _ => ⟨fun c => False.elim (by revert c; decide), fun _ => ⟨fun c => False.elim (by revert c; decide), fun _ => ⟨fun c => False.elim (by revert c; decide), fun _ => ⟨fun _ => ?_, fun c => False.elim (by revert c; decide)⟩⟩⟩⟩⟩⟩⟩⟩⟩⟩⟩⟩⟩⟩⟩
  refine J_ald S_X9_count rfl rfl ?_
  refine J_getR S_X9_count rfl (o' := 4) (by assumption) (by omega) rfl ?_
  refine J_CVx S_X9_count rfl rfl (by assumption) (by omega) (by simp) (hsn) rfl ?_
  refine J_retI S_X9_count rfl ?_
  exact ⟨rfl, rfl⟩
theorem X10_count_14 {n L : Nat} (hI : IV (I 314)) (h2 : I 313 2 = nI n) (h4 : I 313 4 = nI L) : mj_R D_X10_count [.inr (some 313), .inl (nI 14)] (mj_w I) (mj_ex (some (.inl (I 314 687 + I 314 1375))) I) := by
  have m0 := s_313
  have m1 := s_314
  refine mj_enter (by decide +kernel) (Nat.le_of_ble_eq_true rfl) ?_
  refine J_ild S_X10_count rfl rfl ?_
  refine J_sw S_X10_count rfl ⟨fun c => False.elim (by revert c; decide), fun _ => ⟨fun c => False.elim (by revert c; decide), fun _ => ⟨fun c => False.elim (by revert c; decide), fun _ => ⟨fun c => False.elim (by revert c; decide), fun _ => ⟨fun c => False.elim (by revert c; decide), fun _ => ⟨fun c => False.elim (by revert c; decide), fun _ => ⟨fun c => False.elim (by revert c; decide), fun _ => ⟨fun c => False.elim (by revert c; decide), fun _ => ⟨fun c => False.elim (by revert c; decide), fun _ => ⟨fun c => False.elim (by revert c; decide), fun _ => ⟨fun c => False.elim (by revert c; decide), fun _ => ⟨fun c => False.elim (by revert c; decide), fun _ => ⟨fun c => False.elim (by revert c; decide), fun _ => ⟨fun c => False.elim (by revert c; decide), fun _ => ⟨fun _ => ?_, fun c => False.elim (by revert c; decide)⟩⟩⟩⟩⟩⟩⟩⟩⟩⟩⟩⟩⟩⟩⟩
  refine J_ald S_X10_count rfl rfl ?_
  refine J_getR S_X10_count rfl (o' := 314) (by assumption) (by omega) rfl ?_
  refine J_C S_X10_count rfl ?_
  refine J_CSx S_X10_count rfl rfl (by simp) (C_X10_slotAt (q := 0)) rfl ?_
  refine J_iald S_X10_count rfl (by assumption) (by omega) (j := 687) rfl (by omega) (by decide) ?_
  refine J_ald S_X10_count rfl rfl ?_
  refine J_getR S_X10_count rfl (o' := 314) (by assumption) (by omega) rfl ?_
  refine J_C S_X10_count rfl ?_
  refine J_CSx S_X10_count rfl rfl (by simp) (C_X10_slotAt (q := 1)) rfl ?_
  refine J_iald S_X10_count rfl (by assumption) (by omega) (j := 1375) rfl (by omega) (by decide) ?_
  refine J_bin S_X10_count rfl ?_
  refine J_retI S_X10_count rfl ?_
  exact ⟨rfl, rfl⟩
theorem X9_count_15 {o n L : Nat} (hc : CR I (I 314) (I 315) o n L (I 316)) : mj_R D_X9_count [.inr (some 0), .inl (nI 15)] (mj_w I) (mj_ex (some (.inl (nI n))) I) := by
  have m0 := s_0
  have m1 := s_1
  have m2 := s_2
  have m4 := mj_S4.1
  have m5 := mj_B5.1
  have m6 : mj_sh 6 = (2, 3) := mj_B5.2.1
  have m52 := s_52
  have hR : RB I 5 (I 314) := hc.1.1
  have hI : IV (I 314) := hc.1.2.1
  refine mj_enter (by decide +kernel) (Nat.le_of_ble_eq_true rfl) ?_
  refine J_ild S_X9_count rfl rfl ?_
  refine J_if S_X9_count rfl (fun c1 => False.elim (absurd c1 (by decide))) (fun c1 => ?_)
  refine J_ild S_X9_count rfl rfl ?_
  refine J_C S_X9_count rfl ?_
  refine J_cmp S_X9_count rfl (fun c7 => ?_) (fun c7 => False.elim (c7 (by decide)))
  refine J_ald S_X9_count rfl rfl ?_
  refine J_getR S_X9_count rfl (o' := 4) (by assumption) (by omega) rfl ?_
  refine J_getR S_X9_count rfl (o' := 5) (by assumption) (by omega) rfl ?_
  refine J_ast S_X9_count rfl rfl ?_
  refine J_ild S_X9_count rfl rfl ?_
  refine J_sw S_X9_count rfl ⟨fun c => False.elim (by revert c; decide), fun _ => ⟨fun c => False.elim (by revert c; decide), fun _ => ⟨fun c => False.elim (by revert c; decide), fun _ => ⟨fun c => False.elim (by revert c; decide), fun _ => ⟨fun c => False.elim (by revert c; decide), fun _ => ⟨fun c => False.elim (by revert c; decide), fun _ => ⟨fun c => False.elim (by revert c; decide), fun _ => ⟨fun c => False.elim (by revert c; decide), fun _ => ⟨fun c => False.elim (by revert c; decide), fun _ => ⟨fun c => False.elim (by revert c; decide), fun _ => ⟨fun c => False.elim (by revert c; decide), fun _ => ⟨fun c => False.elim (by revert c; decide), fun _ => ⟨fun c => False.elim (by revert c; decide), fun _ => ⟨fun c => False.elim (by revert c; decide), fun _ => ⟨fun c => False.elim (by revert c; decide), fun _ => ⟨fun _ => ?_, fun c => False.elim (by revert c; decide)⟩⟩⟩⟩⟩⟩⟩⟩⟩⟩⟩⟩⟩⟩⟩⟩
  refine J_ald S_X9_count rfl rfl ?_
  refine J_getR S_X9_count rfl (o' := 52) (by assumption) (by omega) rfl ?_
  refine J_getI S_X9_count rfl (by assumption) (by omega) ?_
  refine J_retI S_X9_count rfl ?_
  rw [hc.2.1.2.1]; exact ⟨rfl, rfl⟩
theorem X10_count_15 {n L : Nat} (hI : IV (I 314)) (h2 : I 313 2 = nI n) (h4 : I 313 4 = nI L) : mj_R D_X10_count [.inr (some 313), .inl (nI 15)] (mj_w I) (mj_ex (some (.inl (nI n))) I) := by
  have m0 := s_313
  have m1 := s_314
  refine mj_enter (by decide +kernel) (Nat.le_of_ble_eq_true rfl) ?_
  refine J_ild S_X10_count rfl rfl ?_
  refine J_sw S_X10_count rfl ⟨fun c => False.elim (by revert c; decide), fun _ => ⟨fun c => False.elim (by revert c; decide), fun _ => ⟨fun c => False.elim (by revert c; decide), fun _ => ⟨fun c => False.elim (by revert c; decide), fun _ => ⟨fun c => False.elim (by revert c; decide), fun _ => ⟨fun c => False.elim (by revert c; decide), fun _ => ⟨fun c => False.elim (by revert c; decide), fun _ => ⟨fun c => False.elim (by revert c; decide), fun _ => ⟨fun c => False.elim (by revert c; decide), fun _ => ⟨fun c => False.elim (by revert c; decide), fun _ => ⟨fun c => False.elim (by revert c; decide), fun _ => ⟨fun c => False.elim (by revert c; decide), fun _ => ⟨fun c => False.elim (by revert c; decide), fun _ => ⟨fun c => False.elim (by revert c; decide), fun _ => ⟨fun c => False.elim (by revert c; decide), fun _ => ⟨fun _ => ?_, fun c => False.elim (by revert c; decide)⟩⟩⟩⟩⟩⟩⟩⟩⟩⟩⟩⟩⟩⟩⟩⟩
  refine J_ald S_X10_count rfl rfl ?_
  refine J_getI S_X10_count rfl (by assumption) (by omega) ?_
  refine J_retI S_X10_count rfl ?_
  rw [h2]; exact ⟨rfl, rfl⟩
theorem X9_count_16 {o n L : Nat} (hc : CR I (I 314) (I 315) o n L (I 316)) : mj_R D_X9_count [.inr (some 0), .inl (nI 16)] (mj_w I) (mj_ex (some (.inl (nI L))) I) := by
  have m0 := s_0
  have m1 := s_1
  have m2 := s_2
  have m4 := mj_S4.1
  have m5 := mj_B5.1
  have m6 : mj_sh 6 = (2, 3) := mj_B5.2.1
  have m52 := s_52
  have hR : RB I 5 (I 314) := hc.1.1
  have hI : IV (I 314) := hc.1.2.1
  refine mj_enter (by decide +kernel) (Nat.le_of_ble_eq_true rfl) ?_
  refine J_ild S_X9_count rfl rfl ?_
  refine J_if S_X9_count rfl (fun c1 => False.elim (absurd c1 (by decide))) (fun c1 => ?_)
  refine J_ild S_X9_count rfl rfl ?_
  refine J_C S_X9_count rfl ?_
  refine J_cmp S_X9_count rfl (fun c7 => ?_) (fun c7 => False.elim (c7 (by decide)))
  refine J_ald S_X9_count rfl rfl ?_
  refine J_getR S_X9_count rfl (o' := 4) (by assumption) (by omega) rfl ?_
  refine J_getR S_X9_count rfl (o' := 5) (by assumption) (by omega) rfl ?_
  refine J_ast S_X9_count rfl rfl ?_
  refine J_ild S_X9_count rfl rfl ?_
  refine J_sw S_X9_count rfl ⟨fun c => False.elim (by revert c; decide), fun _ => ⟨fun c => False.elim (by revert c; decide), fun _ => ⟨fun c => False.elim (by revert c; decide), fun _ => ⟨fun c => False.elim (by revert c; decide), fun _ => ⟨fun c => False.elim (by revert c; decide), fun _ => ⟨fun c => False.elim (by revert c; decide), fun _ => ⟨fun c => False.elim (by revert c; decide), fun _ => ⟨fun c => False.elim (by revert c; decide), fun _ => ⟨fun c => False.elim (by revert c; decide), fun _ => ⟨fun c => False.elim (by revert c; decide), fun _ => ⟨fun c => False.elim (by revert c; decide), fun _ => ⟨fun c => False.elim (by revert c; decide), fun _ => ⟨fun c => False.elim (by revert c; decide), fun _ => ⟨fun c => False.elim (by revert c; decide), fun _ => ⟨fun c => False.elim (by revert c; decide), fun _ => ⟨fun c => False.elim (by revert c; decide), fun _ => ⟨fun _ => ?_, fun c => False.elim (by revert c; decide)⟩⟩⟩⟩⟩⟩⟩⟩⟩⟩⟩⟩⟩⟩⟩⟩⟩
  refine J_ald S_X9_count rfl rfl ?_
  refine J_getR S_X9_count rfl (o' := 1) (by assumption) (by omega) rfl ?_
  refine J_getR S_X9_count rfl (o' := 2) (by assumption) (by omega) rfl ?_
  refine J_getI S_X9_count rfl (by assumption) (by omega) ?_
  refine J_retI S_X9_count rfl ?_
  rw [hc.2.2.2.1]; exact ⟨rfl, rfl⟩
theorem X10_count_16 {n L : Nat} (hI : IV (I 314)) (h2 : I 313 2 = nI n) (h4 : I 313 4 = nI L) : mj_R D_X10_count [.inr (some 313), .inl (nI 16)] (mj_w I) (mj_ex (some (.inl (nI L))) I) := by
  have m0 := s_313
  have m1 := s_314
  refine mj_enter (by decide +kernel) (Nat.le_of_ble_eq_true rfl) ?_
  refine J_ild S_X10_count rfl rfl ?_
  refine J_sw S_X10_count rfl ⟨fun c => False.elim (by revert c; decide), fun _ => ⟨fun c => False.elim (by revert c; decide), fun _ => ⟨fun c => False.elim (by revert c; decide), fun _ => ⟨fun c => False.elim (by revert c; decide), fun _ => ⟨fun c => False.elim (by revert c; decide), fun _ => ⟨fun c => False.elim (by revert c; decide), fun _ => ⟨fun c => False.elim (by revert c; decide), fun _ => ⟨fun c => False.elim (by revert c; decide), fun _ => ⟨fun c => False.elim (by revert c; decide), fun _ => ⟨fun c => False.elim (by revert c; decide), fun _ => ⟨fun c => False.elim (by revert c; decide), fun _ => ⟨fun c => False.elim (by revert c; decide), fun _ => ⟨fun c => False.elim (by revert c; decide), fun _ => ⟨fun c => False.elim (by revert c; decide), fun _ => ⟨fun c => False.elim (by revert c; decide), fun _ => ⟨fun c => False.elim (by revert c; decide), fun _ => ⟨fun _ => ?_, fun c => False.elim (by revert c; decide)⟩⟩⟩⟩⟩⟩⟩⟩⟩⟩⟩⟩⟩⟩⟩⟩⟩
  refine J_ald S_X10_count rfl rfl ?_
  refine J_getI S_X10_count rfl (by assumption) (by omega) ?_
  refine J_retI S_X10_count rfl ?_
  rw [h4]; exact ⟨rfl, rfl⟩
theorem X9_count_17 {o n L : Nat} (hc : CR I (I 314) (I 315) o n L (I 316)) : mj_R D_X9_count [.inr (some 0), .inl (nI 17)] (mj_w I) (mj_ex (some (.inl (I 314 9))) I) := by
  have m0 := s_0
  have m1 := s_1
  have m2 := s_2
  have m4 := mj_S4.1
  have m5 := mj_B5.1
  have m6 : mj_sh 6 = (2, 3) := mj_B5.2.1
  have m52 := s_52
  have hR : RB I 5 (I 314) := hc.1.1
  have hI : IV (I 314) := hc.1.2.1
  refine mj_enter (by decide +kernel) (Nat.le_of_ble_eq_true rfl) ?_
  refine J_ild S_X9_count rfl rfl ?_
  refine J_if S_X9_count rfl (fun c1 => False.elim (absurd c1 (by decide))) (fun c1 => ?_)
  refine J_ild S_X9_count rfl rfl ?_
  refine J_C S_X9_count rfl ?_
  refine J_cmp S_X9_count rfl (fun c7 => ?_) (fun c7 => False.elim (c7 (by decide)))
  refine J_ald S_X9_count rfl rfl ?_
  refine J_getR S_X9_count rfl (o' := 4) (by assumption) (by omega) rfl ?_
  refine J_getR S_X9_count rfl (o' := 5) (by assumption) (by omega) rfl ?_
  refine J_ast S_X9_count rfl rfl ?_
  refine J_ild S_X9_count rfl rfl ?_
  refine J_sw S_X9_count rfl ⟨fun c => False.elim (by revert c; decide), fun _ => ⟨fun c => False.elim (by revert c; decide), fun _ => ⟨fun c => False.elim (by revert c; decide), fun _ => ⟨fun c => False.elim (by revert c; decide), fun _ => ⟨fun c => False.elim (by revert c; decide), fun _ => ⟨fun c => False.elim (by revert c; decide), fun _ => ⟨fun c => False.elim (by revert c; decide), fun _ => ⟨fun c => False.elim (by revert c; decide), fun _ => ⟨fun c => False.elim (by revert c; decide), fun _ => ⟨fun c => False.elim (by revert c; decide), fun _ => ⟨fun c => False.elim (by revert c; decide), fun _ => ⟨fun c => False.elim (by revert c; decide), fun _ => ⟨fun c => False.elim (by revert c; decide), fun _ => ⟨fun c => False.elim (by revert c; decide), fun _ => ⟨fun c => False.elim (by revert c; decide), fun _ => ⟨fun c => False.elim (by revert c; decide), fun _ => ⟨fun c => False.elim (by revert c; decide), fun _ => ?_⟩⟩⟩⟩⟩⟩⟩⟩⟩⟩⟩⟩⟩⟩⟩⟩⟩
  refine J_ald S_X9_count rfl rfl ?_
  refine J_ild S_X9_count rfl rfl ?_
  refine J_C S_X9_count rfl ?_
  refine J_bin S_X9_count rfl ?_
  rw [show nI 17 - 17 = nI 0 by decide]
  refine J_CVx S_X9_count rfl rfl (by assumption) (by omega) (by simp) (C_X0_setting mj_B5 (i := 0) (by decide)) rfl ?_
  refine J_retI S_X9_count rfl ?_
  rw [show I (5 + 5) 0 = I 314 9 from hR.2.2.1 0 (by decide)]; exact ⟨rfl, rfl⟩
theorem X10_count_17 {n L : Nat} (hI : IV (I 314)) (h2 : I 313 2 = nI n) (h4 : I 313 4 = nI L) : mj_R D_X10_count [.inr (some 313), .inl (nI 17)] (mj_w I) (mj_ex (some (.inl (I 314 9))) I) := by
  have m0 := s_313
  have m1 := s_314
  refine mj_enter (by decide +kernel) (Nat.le_of_ble_eq_true rfl) ?_
  refine J_ild S_X10_count rfl rfl ?_
  refine J_sw S_X10_count rfl ⟨fun c => False.elim (by revert c; decide), fun _ => ⟨fun c => False.elim (by revert c; decide), fun _ => ⟨fun c => False.elim (by revert c; decide), fun _ => ⟨fun c => False.elim (by revert c; decide), fun _ => ⟨fun c => False.elim (by revert c; decide), fun _ => ⟨fun c => False.elim (by revert c; decide), fun _ => ⟨fun c => False.elim (by revert c; decide), fun _ => ⟨fun c => False.elim (by revert c; decide), fun _ => ⟨fun c => False.elim (by revert c; decide), fun _ => ⟨fun c => False.elim (by revert c; decide), fun _ => ⟨fun c => False.elim (by revert c; decide), fun _ => ⟨fun c => False.elim (by revert c; decide), fun _ => ⟨fun c => False.elim (by revert c; decide), fun _ => ⟨fun c => False.elim (by revert c; decide), fun _ => ⟨fun c => False.elim (by revert c; decide), fun _ => ⟨fun c => False.elim (by revert c; decide), fun _ => ⟨fun c => False.elim (by revert c; decide), fun _ => ?_⟩⟩⟩⟩⟩⟩⟩⟩⟩⟩⟩⟩⟩⟩⟩⟩⟩
  refine J_ild S_X10_count rfl rfl ?_
  refine J_C S_X10_count rfl ?_
  refine J_C S_X10_count rfl ?_
  refine J_CSx S_X10_count rfl rfl (by simp) (in_f (by decide)) rfl ?_
  refine J_if S_X10_count rfl (fun c172 => ?_) (fun c172 => False.elim (c172 rfl))
  refine J_ild S_X10_count rfl rfl ?_
  refine J_C S_X10_count rfl ?_
  refine J_C S_X10_count rfl ?_
  refine J_CSx S_X10_count rfl rfl (by simp) (in_t (by decide)) rfl ?_
  refine J_if S_X10_count rfl (fun c197 => False.elim (absurd c197 (by decide))) (fun c197 => ?_)
  refine J_ald S_X10_count rfl rfl ?_
  refine J_getR S_X10_count rfl (o' := 314) (by assumption) (by omega) rfl ?_
  refine J_C S_X10_count rfl ?_
  refine J_ild S_X10_count rfl rfl ?_
  refine J_bin S_X10_count rfl ?_
  refine J_C S_X10_count rfl ?_
  refine J_bin S_X10_count rfl ?_
  refine J_iald S_X10_count rfl (by assumption) (by omega) (j := 9) (by decide) (by omega) (by decide) ?_
  refine J_goto S_X10_count rfl ?_
  refine J_retI S_X10_count rfl ?_
  exact ⟨rfl, rfl⟩
theorem X9_count_18 {o n L : Nat} (hc : CR I (I 314) (I 315) o n L (I 316)) : mj_R D_X9_count [.inr (some 0), .inl (nI 18)] (mj_w I) (mj_ex (some (.inl (I 314 10))) I) := by
  have m0 := s_0
  have m1 := s_1
  have m2 := s_2
  have m4 := mj_S4.1
  have m5 := mj_B5.1
  have m6 : mj_sh 6 = (2, 3) := mj_B5.2.1
  have m52 := s_52
  have hR : RB I 5 (I 314) := hc.1.1
  have hI : IV (I 314) := hc.1.2.1
  refine mj_enter (by decide +kernel) (Nat.le_of_ble_eq_true rfl) ?_
  refine J_ild S_X9_count rfl rfl ?_
  refine J_if S_X9_count rfl (fun c1 => False.elim (absurd c1 (by decide))) (fun c1 => ?_)
  refine J_ild S_X9_count rfl rfl ?_
  refine J_C S_X9_count rfl ?_
  refine J_cmp S_X9_count rfl (fun c7 => ?_) (fun c7 => False.elim (c7 (by decide)))
  refine J_ald S_X9_count rfl rfl ?_
  refine J_getR S_X9_count rfl (o' := 4) (by assumption) (by omega) rfl ?_
  refine J_getR S_X9_count rfl (o' := 5) (by assumption) (by omega) rfl ?_
  refine J_ast S_X9_count rfl rfl ?_
  refine J_ild S_X9_count rfl rfl ?_
  refine J_sw S_X9_count rfl ⟨fun c => False.elim (by revert c; decide), fun _ => ⟨fun c => False.elim (by revert c; decide), fun _ => ⟨fun c => False.elim (by revert c; decide), fun _ => ⟨fun c => False.elim (by revert c; decide), fun _ => ⟨fun c => False.elim (by revert c; decide), fun _ => ⟨fun c => False.elim (by revert c; decide), fun _ => ⟨fun c => False.elim (by revert c; decide), fun _ => ⟨fun c => False.elim (by revert c; decide), fun _ => ⟨fun c => False.elim (by revert c; decide), fun _ => ⟨fun c => False.elim (by revert c; decide), fun _ => ⟨fun c => False.elim (by revert c; decide), fun _ => ⟨fun c => False.elim (by revert c; decide), fun _ => ⟨fun c => False.elim (by revert c; decide), fun _ => ⟨fun c => False.elim (by revert c; decide), fun _ => ⟨fun c => False.elim (by revert c; decide), fun _ => ⟨fun c => False.elim (by revert c; decide), fun _ => ⟨fun c => False.elim (by revert c; decide), fun _ => ?_⟩⟩⟩⟩⟩⟩⟩⟩⟩⟩⟩⟩⟩⟩⟩⟩⟩
  refine J_ald S_X9_count rfl rfl ?_
  refine J_ild S_X9_count rfl rfl ?_
  refine J_C S_X9_count rfl ?_
  refine J_bin S_X9_count rfl ?_
  rw [show nI 18 - 17 = nI 1 by decide]
  refine J_CVx S_X9_count rfl rfl (by assumption) (by omega) (by simp) (C_X0_setting mj_B5 (i := 1) (by decide)) rfl ?_
  refine J_retI S_X9_count rfl ?_
  rw [show I (5 + 5) 1 = I 314 10 from hR.2.2.1 1 (by decide)]; exact ⟨rfl, rfl⟩
theorem X10_count_18 {n L : Nat} (hI : IV (I 314)) (h2 : I 313 2 = nI n) (h4 : I 313 4 = nI L) : mj_R D_X10_count [.inr (some 313), .inl (nI 18)] (mj_w I) (mj_ex (some (.inl (I 314 10))) I) := by
  have m0 := s_313
  have m1 := s_314
  refine mj_enter (by decide +kernel) (Nat.le_of_ble_eq_true rfl) ?_
  refine J_ild S_X10_count rfl rfl ?_
  refine J_sw S_X10_count rfl ⟨fun c => False.elim (by revert c; decide), fun _ => ⟨fun c => False.elim (by revert c; decide), fun _ => ⟨fun c => False.elim (by revert c; decide), fun _ => ⟨fun c => False.elim (by revert c; decide), fun _ => ⟨fun c => False.elim (by revert c; decide), fun _ => ⟨fun c => False.elim (by revert c; decide), fun _ => ⟨fun c => False.elim (by revert c; decide), fun _ => ⟨fun c => False.elim (by revert c; decide), fun _ => ⟨fun c => False.elim (by revert c; decide), fun _ => ⟨fun c => False.elim (by revert c; decide), fun _ => ⟨fun c => False.elim (by revert c; decide), fun _ => ⟨fun c => False.elim (by revert c; decide), fun _ => ⟨fun c => False.elim (by revert c; decide), fun _ => ⟨fun c => False.elim (by revert c; decide), fun _ => ⟨fun c => False.elim (by revert c; decide), fun _ => ⟨fun c => False.elim (by revert c; decide), fun _ => ⟨fun c => False.elim (by revert c; decide), fun _ => ?_⟩⟩⟩⟩⟩⟩⟩⟩⟩⟩⟩⟩⟩⟩⟩⟩⟩
  refine J_ild S_X10_count rfl rfl ?_
  refine J_C S_X10_count rfl ?_
  refine J_C S_X10_count rfl ?_
  refine J_CSx S_X10_count rfl rfl (by simp) (in_f (by decide)) rfl ?_
  refine J_if S_X10_count rfl (fun c172 => ?_) (fun c172 => False.elim (c172 rfl))
  refine J_ild S_X10_count rfl rfl ?_
  refine J_C S_X10_count rfl ?_
  refine J_C S_X10_count rfl ?_
  refine J_CSx S_X10_count rfl rfl (by simp) (in_t (by decide)) rfl ?_
  refine J_if S_X10_count rfl (fun c197 => False.elim (absurd c197 (by decide))) (fun c197 => ?_)
  refine J_ald S_X10_count rfl rfl ?_
  refine J_getR S_X10_count rfl (o' := 314) (by assumption) (by omega) rfl ?_
  refine J_C S_X10_count rfl ?_
  refine J_ild S_X10_count rfl rfl ?_
  refine J_bin S_X10_count rfl ?_
  refine J_C S_X10_count rfl ?_
  refine J_bin S_X10_count rfl ?_
  refine J_iald S_X10_count rfl (by assumption) (by omega) (j := 10) (by decide) (by omega) (by decide) ?_
  refine J_goto S_X10_count rfl ?_
  refine J_retI S_X10_count rfl ?_
  exact ⟨rfl, rfl⟩
theorem X9_count_19 {o n L : Nat} (hc : CR I (I 314) (I 315) o n L (I 316)) : mj_R D_X9_count [.inr (some 0), .inl (nI 19)] (mj_w I) (mj_ex (some (.inl (I 314 11))) I) := by
  have m0 := s_0
  have m1 := s_1
  have m2 := s_2
  have m4 := mj_S4.1
  have m5 := mj_B5.1
  have m6 : mj_sh 6 = (2, 3) := mj_B5.2.1
  have m52 := s_52
  have hR : RB I 5 (I 314) := hc.1.1
  have hI : IV (I 314) := hc.1.2.1
  refine mj_enter (by decide +kernel) (Nat.le_of_ble_eq_true rfl) ?_
  refine J_ild S_X9_count rfl rfl ?_
  refine J_if S_X9_count rfl (fun c1 => False.elim (absurd c1 (by decide))) (fun c1 => ?_)
  refine J_ild S_X9_count rfl rfl ?_
  refine J_C S_X9_count rfl ?_
  refine J_cmp S_X9_count rfl (fun c7 => ?_) (fun c7 => False.elim (c7 (by decide)))
  refine J_ald S_X9_count rfl rfl ?_
  refine J_getR S_X9_count rfl (o' := 4) (by assumption) (by omega) rfl ?_
  refine J_getR S_X9_count rfl (o' := 5) (by assumption) (by omega) rfl ?_
  refine J_ast S_X9_count rfl rfl ?_
  refine J_ild S_X9_count rfl rfl ?_
  refine J_sw S_X9_count rfl ⟨fun c => False.elim (by revert c; decide), fun _ => ⟨fun c => False.elim (by revert c; decide), fun _ => ⟨fun c => False.elim (by revert c; decide), fun _ => ⟨fun c => False.elim (by revert c; decide), fun _ => ⟨fun c => False.elim (by revert c; decide), fun _ => ⟨fun c => False.elim (by revert c; decide), fun _ => ⟨fun c => False.elim (by revert c; decide), fun _ => ⟨fun c => False.elim (by revert c; decide), fun _ => ⟨fun c => False.elim (by revert c; decide), fun _ => ⟨fun c => False.elim (by revert c; decide), fun _ => ⟨fun c => False.elim (by revert c; decide), fun _ => ⟨fun c => False.elim (by revert c; decide), fun _ => ⟨fun c => False.elim (by revert c; decide), fun _ => ⟨fun c => False.elim (by revert c; decide), fun _ => ⟨fun c => False.elim (by revert c; decide), fun _ => ⟨fun c => False.elim (by revert c; decide), fun _ => ⟨fun c => False.elim (by revert c; decide), fun _ => ?_⟩⟩⟩⟩⟩⟩⟩⟩⟩⟩⟩⟩⟩⟩⟩⟩⟩
  refine J_ald S_X9_count rfl rfl ?_
  refine J_ild S_X9_count rfl rfl ?_
  refine J_C S_X9_count rfl ?_
  refine J_bin S_X9_count rfl ?_
  rw [show nI 19 - 17 = nI 2 by decide]
  refine J_CVx S_X9_count rfl rfl (by assumption) (by omega) (by simp) (C_X0_setting mj_B5 (i := 2) (by decide)) rfl ?_
  refine J_retI S_X9_count rfl ?_
  rw [show I (5 + 5) 2 = I 314 11 from hR.2.2.1 2 (by decide)]; exact ⟨rfl, rfl⟩
theorem X10_count_19 {n L : Nat} (hI : IV (I 314)) (h2 : I 313 2 = nI n) (h4 : I 313 4 = nI L) : mj_R D_X10_count [.inr (some 313), .inl (nI 19)] (mj_w I) (mj_ex (some (.inl (I 314 11))) I) := by
  have m0 := s_313
  have m1 := s_314
  refine mj_enter (by decide +kernel) (Nat.le_of_ble_eq_true rfl) ?_
  refine J_ild S_X10_count rfl rfl ?_
  refine J_sw S_X10_count rfl ⟨fun c => False.elim (by revert c; decide), fun _ => ⟨fun c => False.elim (by revert c; decide), fun _ => ⟨fun c => False.elim (by revert c; decide), fun _ => ⟨fun c => False.elim (by revert c; decide), fun _ => ⟨fun c => False.elim (by revert c; decide), fun _ => ⟨fun c => False.elim (by revert c; decide), fun _ => ⟨fun c => False.elim (by revert c; decide), fun _ => ⟨fun c => False.elim (by revert c; decide), fun _ => ⟨fun c => False.elim (by revert c; decide), fun _ => ⟨fun c => False.elim (by revert c; decide), fun _ => ⟨fun c => False.elim (by revert c; decide), fun _ => ⟨fun c => False.elim (by revert c; decide), fun _ => ⟨fun c => False.elim (by revert c; decide), fun _ => ⟨fun c => False.elim (by revert c; decide), fun _ => ⟨fun c => False.elim (by revert c; decide), fun _ => ⟨fun c => False.elim (by revert c; decide), fun _ => ⟨fun c => False.elim (by revert c; decide), fun _ => ?_⟩⟩⟩⟩⟩⟩⟩⟩⟩⟩⟩⟩⟩⟩⟩⟩⟩
  refine J_ild S_X10_count rfl rfl ?_
  refine J_C S_X10_count rfl ?_
  refine J_C S_X10_count rfl ?_
  refine J_CSx S_X10_count rfl rfl (by simp) (in_f (by decide)) rfl ?_
  refine J_if S_X10_count rfl (fun c172 => ?_) (fun c172 => False.elim (c172 rfl))
  refine J_ild S_X10_count rfl rfl ?_
  refine J_C S_X10_count rfl ?_
  refine J_C S_X10_count rfl ?_
  refine J_CSx S_X10_count rfl rfl (by simp) (in_t (by decide)) rfl ?_
  refine J_if S_X10_count rfl (fun c197 => False.elim (absurd c197 (by decide))) (fun c197 => ?_)
  refine J_ald S_X10_count rfl rfl ?_
  refine J_getR S_X10_count rfl (o' := 314) (by assumption) (by omega) rfl ?_
  refine J_C S_X10_count rfl ?_
  refine J_ild S_X10_count rfl rfl ?_
  refine J_bin S_X10_count rfl ?_
  refine J_C S_X10_count rfl ?_
  refine J_bin S_X10_count rfl ?_
  refine J_iald S_X10_count rfl (by assumption) (by omega) (j := 11) (by decide) (by omega) (by decide) ?_
  refine J_goto S_X10_count rfl ?_
  refine J_retI S_X10_count rfl ?_
  exact ⟨rfl, rfl⟩
theorem X9_count_20 {o n L : Nat} (hc : CR I (I 314) (I 315) o n L (I 316)) : mj_R D_X9_count [.inr (some 0), .inl (nI 20)] (mj_w I) (mj_ex (some (.inl (I 314 12))) I) := by
  have m0 := s_0
  have m1 := s_1
  have m2 := s_2
  have m4 := mj_S4.1
  have m5 := mj_B5.1
  have m6 : mj_sh 6 = (2, 3) := mj_B5.2.1
  have m52 := s_52
  have hR : RB I 5 (I 314) := hc.1.1
  have hI : IV (I 314) := hc.1.2.1
  refine mj_enter (by decide +kernel) (Nat.le_of_ble_eq_true rfl) ?_
  refine J_ild S_X9_count rfl rfl ?_
  refine J_if S_X9_count rfl (fun c1 => False.elim (absurd c1 (by decide))) (fun c1 => ?_)
  refine J_ild S_X9_count rfl rfl ?_
  refine J_C S_X9_count rfl ?_
  refine J_cmp S_X9_count rfl (fun c7 => ?_) (fun c7 => False.elim (c7 (by decide)))
  refine J_ald S_X9_count rfl rfl ?_
  refine J_getR S_X9_count rfl (o' := 4) (by assumption) (by omega) rfl ?_
  refine J_getR S_X9_count rfl (o' := 5) (by assumption) (by omega) rfl ?_
  refine J_ast S_X9_count rfl rfl ?_
  refine J_ild S_X9_count rfl rfl ?_
  refine J_sw S_X9_count rfl ⟨fun c => False.elim (by revert c; decide), fun _ => ⟨fun c => False.elim (by revert c; decide), fun _ => ⟨fun c => False.elim (by revert c; decide), fun _ => ⟨fun c => False.elim (by revert c; decide), fun _ => ⟨fun c => False.elim (by revert c; decide), fun _ => ⟨fun c => False.elim (by revert c; decide), fun _ => ⟨fun c => False.elim (by revert c; decide), fun _ => ⟨fun c => False.elim (by revert c; decide), fun _ => ⟨fun c => False.elim (by revert c; decide), fun _ => ⟨fun c => False.elim (by revert c; decide), fun _ => ⟨fun c => False.elim (by revert c; decide), fun _ => ⟨fun c => False.elim (by revert c; decide), fun _ => ⟨fun c => False.elim (by revert c; decide), fun _ => ⟨fun c => False.elim (by revert c; decide), fun _ => ⟨fun c => False.elim (by revert c; decide), fun _ => ⟨fun c => False.elim (by revert c; decide), fun _ => ⟨fun c => False.elim (by revert c; decide), fun _ => ?_⟩⟩⟩⟩⟩⟩⟩⟩⟩⟩⟩⟩⟩⟩⟩⟩⟩
  refine J_ald S_X9_count rfl rfl ?_
  refine J_ild S_X9_count rfl rfl ?_
  refine J_C S_X9_count rfl ?_
  refine J_bin S_X9_count rfl ?_
  rw [show nI 20 - 17 = nI 3 by decide]
  refine J_CVx S_X9_count rfl rfl (by assumption) (by omega) (by simp) (C_X0_setting mj_B5 (i := 3) (by decide)) rfl ?_
  refine J_retI S_X9_count rfl ?_
  rw [show I (5 + 5) 3 = I 314 12 from hR.2.2.1 3 (by decide)]; exact ⟨rfl, rfl⟩
theorem X10_count_20 {n L : Nat} (hI : IV (I 314)) (h2 : I 313 2 = nI n) (h4 : I 313 4 = nI L) : mj_R D_X10_count [.inr (some 313), .inl (nI 20)] (mj_w I) (mj_ex (some (.inl (I 314 12))) I) := by
  have m0 := s_313
  have m1 := s_314
  refine mj_enter (by decide +kernel) (Nat.le_of_ble_eq_true rfl) ?_
  refine J_ild S_X10_count rfl rfl ?_
  refine J_sw S_X10_count rfl ⟨fun c => False.elim (by revert c; decide), fun _ => ⟨fun c => False.elim (by revert c; decide), fun _ => ⟨fun c => False.elim (by revert c; decide), fun _ => ⟨fun c => False.elim (by revert c; decide), fun _ => ⟨fun c => False.elim (by revert c; decide), fun _ => ⟨fun c => False.elim (by revert c; decide), fun _ => ⟨fun c => False.elim (by revert c; decide), fun _ => ⟨fun c => False.elim (by revert c; decide), fun _ => ⟨fun c => False.elim (by revert c; decide), fun _ => ⟨fun c => False.elim (by revert c; decide), fun _ => ⟨fun c => False.elim (by revert c; decide), fun _ => ⟨fun c => False.elim (by revert c; decide), fun _ => ⟨fun c => False.elim (by revert c; decide), fun _ => ⟨fun c => False.elim (by revert c; decide), fun _ => ⟨fun c => False.elim (by revert c; decide), fun _ => ⟨fun c => False.elim (by revert c; decide), fun _ => ⟨fun c => False.elim (by revert c; decide), fun _ => ?_⟩⟩⟩⟩⟩⟩⟩⟩⟩⟩⟩⟩⟩⟩⟩⟩⟩
  refine J_ild S_X10_count rfl rfl ?_
  refine J_C S_X10_count rfl ?_
  refine J_C S_X10_count rfl ?_
  refine J_CSx S_X10_count rfl rfl (by simp) (in_f (by decide)) rfl ?_
  refine J_if S_X10_count rfl (fun c172 => ?_) (fun c172 => False.elim (c172 rfl))
  refine J_ild S_X10_count rfl rfl ?_
  refine J_C S_X10_count rfl ?_
  refine J_C S_X10_count rfl ?_
  refine J_CSx S_X10_count rfl rfl (by simp) (in_t (by decide)) rfl ?_
  refine J_if S_X10_count rfl (fun c197 => False.elim (absurd c197 (by decide))) (fun c197 => ?_)
  refine J_ald S_X10_count rfl rfl ?_
  refine J_getR S_X10_count rfl (o' := 314) (by assumption) (by omega) rfl ?_
  refine J_C S_X10_count rfl ?_
  refine J_ild S_X10_count rfl rfl ?_
  refine J_bin S_X10_count rfl ?_
  refine J_C S_X10_count rfl ?_
  refine J_bin S_X10_count rfl ?_
  refine J_iald S_X10_count rfl (by assumption) (by omega) (j := 12) (by decide) (by omega) (by decide) ?_
  refine J_goto S_X10_count rfl ?_
  refine J_retI S_X10_count rfl ?_
  exact ⟨rfl, rfl⟩
theorem X9_count_21 {o n L : Nat} (hc : CR I (I 314) (I 315) o n L (I 316)) : mj_R D_X9_count [.inr (some 0), .inl (nI 21)] (mj_w I) (mj_ex (some (.inl (I 314 13))) I) := by
  have m0 := s_0
  have m1 := s_1
  have m2 := s_2
  have m4 := mj_S4.1
  have m5 := mj_B5.1
  have m6 : mj_sh 6 = (2, 3) := mj_B5.2.1
  have m52 := s_52
  have hR : RB I 5 (I 314) := hc.1.1
  have hI : IV (I 314) := hc.1.2.1
  refine mj_enter (by decide +kernel) (Nat.le_of_ble_eq_true rfl) ?_
  refine J_ild S_X9_count rfl rfl ?_
  refine J_if S_X9_count rfl (fun c1 => False.elim (absurd c1 (by decide))) (fun c1 => ?_)
  refine J_ild S_X9_count rfl rfl ?_
  refine J_C S_X9_count rfl ?_
  refine J_cmp S_X9_count rfl (fun c7 => ?_) (fun c7 => False.elim (c7 (by decide)))
  refine J_ald S_X9_count rfl rfl ?_
  refine J_getR S_X9_count rfl (o' := 4) (by assumption) (by omega) rfl ?_
  refine J_getR S_X9_count rfl (o' := 5) (by assumption) (by omega) rfl ?_
  refine J_ast S_X9_count rfl rfl ?_
  refine J_ild S_X9_count rfl rfl ?_
  refine J_sw S_X9_count rfl ⟨fun c => False.elim (by revert c; decide), fun _ => ⟨fun c => False.elim (by revert c; decide), fun _ => ⟨fun c => False.elim (by revert c; decide), fun _ => ⟨fun c => False.elim (by revert c; decide), fun _ => ⟨fun c => False.elim (by revert c; decide), fun _ => ⟨fun c => False.elim (by revert c; decide), fun _ => ⟨fun c => False.elim (by revert c; decide), fun _ => ⟨fun c => False.elim (by revert c; decide), fun _ => ⟨fun c => False.elim (by revert c; decide), fun _ => ⟨fun c => False.elim (by revert c; decide), fun _ => ⟨fun c => False.elim (by revert c; decide), fun _ => ⟨fun c => False.elim (by revert c; decide), fun _ => ⟨fun c => False.elim (by revert c; decide), fun _ => ⟨fun c => False.elim (by revert c; decide), fun _ => ⟨fun c => False.elim (by revert c; decide), fun _ => ⟨fun c => False.elim (by revert c; decide), fun _ => ⟨fun c => False.elim (by revert c; decide), fun _ => ?_⟩⟩⟩⟩⟩⟩⟩⟩⟩⟩⟩⟩⟩⟩⟩⟩⟩
  refine J_ald S_X9_count rfl rfl ?_
  refine J_ild S_X9_count rfl rfl ?_
  refine J_C S_X9_count rfl ?_
  refine J_bin S_X9_count rfl ?_
  rw [show nI 21 - 17 = nI 4 by decide]
  refine J_CVx S_X9_count rfl rfl (by assumption) (by omega) (by simp) (C_X0_setting mj_B5 (i := 4) (by decide)) rfl ?_
  refine J_retI S_X9_count rfl ?_
  rw [show I (5 + 5) 4 = I 314 13 from hR.2.2.1 4 (by decide)]; exact ⟨rfl, rfl⟩
theorem X10_count_21 {n L : Nat} (hI : IV (I 314)) (h2 : I 313 2 = nI n) (h4 : I 313 4 = nI L) : mj_R D_X10_count [.inr (some 313), .inl (nI 21)] (mj_w I) (mj_ex (some (.inl (I 314 13))) I) := by
  have m0 := s_313
  have m1 := s_314
  refine mj_enter (by decide +kernel) (Nat.le_of_ble_eq_true rfl) ?_
  refine J_ild S_X10_count rfl rfl ?_
  refine J_sw S_X10_count rfl ⟨fun c => False.elim (by revert c; decide), fun _ => ⟨fun c => False.elim (by revert c; decide), fun _ => ⟨fun c => False.elim (by revert c; decide), fun _ => ⟨fun c => False.elim (by revert c; decide), fun _ => ⟨fun c => False.elim (by revert c; decide), fun _ => ⟨fun c => False.elim (by revert c; decide), fun _ => ⟨fun c => False.elim (by revert c; decide), fun _ => ⟨fun c => False.elim (by revert c; decide), fun _ => ⟨fun c => False.elim (by revert c; decide), fun _ => ⟨fun c => False.elim (by revert c; decide), fun _ => ⟨fun c => False.elim (by revert c; decide), fun _ => ⟨fun c => False.elim (by revert c; decide), fun _ => ⟨fun c => False.elim (by revert c; decide), fun _ => ⟨fun c => False.elim (by revert c; decide), fun _ => ⟨fun c => False.elim (by revert c; decide), fun _ => ⟨fun c => False.elim (by revert c; decide), fun _ => ⟨fun c => False.elim (by revert c; decide), fun _ => ?_⟩⟩⟩⟩⟩⟩⟩⟩⟩⟩⟩⟩⟩⟩⟩⟩⟩
  refine J_ild S_X10_count rfl rfl ?_
  refine J_C S_X10_count rfl ?_
  refine J_C S_X10_count rfl ?_
  refine J_CSx S_X10_count rfl rfl (by simp) (in_f (by decide)) rfl ?_
  refine J_if S_X10_count rfl (fun c172 => ?_) (fun c172 => False.elim (c172 rfl))
  refine J_ild S_X10_count rfl rfl ?_
  refine J_C S_X10_count rfl ?_
  refine J_C S_X10_count rfl ?_
  refine J_CSx S_X10_count rfl rfl (by simp) (in_t (by decide)) rfl ?_
  refine J_if S_X10_count rfl (fun c197 => False.elim (absurd c197 (by decide))) (fun c197 => ?_)
  refine J_ald S_X10_count rfl rfl ?_
  refine J_getR S_X10_count rfl (o' := 314) (by assumption) (by omega) rfl ?_
  refine J_C S_X10_count rfl ?_
  refine J_ild S_X10_count rfl rfl ?_
  refine J_bin S_X10_count rfl ?_
  refine J_C S_X10_count rfl ?_
  refine J_bin S_X10_count rfl ?_
  refine J_iald S_X10_count rfl (by assumption) (by omega) (j := 13) (by decide) (by omega) (by decide) ?_
  refine J_goto S_X10_count rfl ?_
  refine J_retI S_X10_count rfl ?_
  exact ⟨rfl, rfl⟩
theorem X9_count_22 {o n L : Nat} (hc : CR I (I 314) (I 315) o n L (I 316)) : mj_R D_X9_count [.inr (some 0), .inl (nI 22)] (mj_w I) (mj_ex (some (.inl (I 314 14))) I) := by
  have m0 := s_0
  have m1 := s_1
  have m2 := s_2
  have m4 := mj_S4.1
  have m5 := mj_B5.1
  have m6 : mj_sh 6 = (2, 3) := mj_B5.2.1
  have m52 := s_52
  have hR : RB I 5 (I 314) := hc.1.1
  have hI : IV (I 314) := hc.1.2.1
  refine mj_enter (by decide +kernel) (Nat.le_of_ble_eq_true rfl) ?_
  refine J_ild S_X9_count rfl rfl ?_
  refine J_if S_X9_count rfl (fun c1 => False.elim (absurd c1 (by decide))) (fun c1 => ?_)
  refine J_ild S_X9_count rfl rfl ?_
  refine J_C S_X9_count rfl ?_
  refine J_cmp S_X9_count rfl (fun c7 => ?_) (fun c7 => False.elim (c7 (by decide)))
  refine J_ald S_X9_count rfl rfl ?_
  refine J_getR S_X9_count rfl (o' := 4) (by assumption) (by omega) rfl ?_
  refine J_getR S_X9_count rfl (o' := 5) (by assumption) (by omega) rfl ?_
  refine J_ast S_X9_count rfl rfl ?_
  refine J_ild S_X9_count rfl rfl ?_
  refine J_sw S_X9_count rfl ⟨fun c => False.elim (by revert c; decide), fun _ => ⟨fun c => False.elim (by revert c; decide), fun _ => ⟨fun c => False.elim (by revert c; decide), fun _ => ⟨fun c => False.elim (by revert c; decide), fun _ => ⟨fun c => False.elim (by revert c; decide), fun _ => ⟨fun c => False.elim (by revert c; decide), fun _ => ⟨fun c => False.elim (by revert c; decide), fun _ => ⟨fun c => False.elim (by revert c; decide), fun _ => ⟨fun c => False.elim (by revert c; decide), fun _ => ⟨fun c => False.elim (by revert c; decide), fun _ => ⟨fun c => False.elim (by revert c; decide), fun _ => ⟨fun c => False.elim (by revert c; decide), fun _ => ⟨fun c => False.elim (by revert c; decide), fun _ => ⟨fun c => False.elim (by revert c; decide), fun _ => ⟨fun c => False.elim (by revert c; decide), fun _ => ⟨fun c => False.elim (by revert c; decide), fun _ => ⟨fun c => False.elim (by revert c; decide), fun _ => ?_⟩⟩⟩⟩⟩⟩⟩⟩⟩⟩⟩⟩⟩⟩⟩⟩⟩
  refine J_ald S_X9_count rfl rfl ?_
  refine J_ild S_X9_count rfl rfl ?_
  refine J_C S_X9_count rfl ?_
  refine J_bin S_X9_count rfl ?_
  rw [show nI 22 - 17 = nI 5 by decide]
  refine J_CVx S_X9_count rfl rfl (by assumption) (by omega) (by simp) (C_X0_setting mj_B5 (i := 5) (by decide)) rfl ?_
  refine J_retI S_X9_count rfl ?_
  rw [show I (5 + 5) 5 = I 314 14 from hR.2.2.1 5 (by decide)]; exact ⟨rfl, rfl⟩
theorem X10_count_22 {n L : Nat} (hI : IV (I 314)) (h2 : I 313 2 = nI n) (h4 : I 313 4 = nI L) : mj_R D_X10_count [.inr (some 313), .inl (nI 22)] (mj_w I) (mj_ex (some (.inl (I 314 14))) I) := by
  have m0 := s_313
  have m1 := s_314
  refine mj_enter (by decide +kernel) (Nat.le_of_ble_eq_true rfl) ?_
  refine J_ild S_X10_count rfl rfl ?_
  refine J_sw S_X10_count rfl ⟨fun c => False.elim (by revert c; decide), fun _ => ⟨fun c => False.elim (by revert c; decide), fun _ => ⟨fun c => False.elim (by revert c; decide), fun _ => ⟨fun c => False.elim (by revert c; decide), fun _ => ⟨fun c => False.elim (by revert c; decide), fun _ => ⟨fun c => False.elim (by revert c; decide), fun _ => ⟨fun c => False.elim (by revert c; decide), fun _ => ⟨fun c => False.elim (by revert c; decide), fun _ => ⟨fun c => False.elim (by revert c; decide), fun _ => ⟨fun c => False.elim (by revert c; decide), fun _ => ⟨fun c => False.elim (by revert c; decide), fun _ => ⟨fun c => False.elim (by revert c; decide), fun _ => ⟨fun c => False.elim (by revert c; decide), fun _ => ⟨fun c => False.elim (by revert c; decide), fun _ => ⟨fun c => False.elim (by revert c; decide), fun _ => ⟨fun c => False.elim (by revert c; decide), fun _ => ⟨fun c => False.elim (by revert c; decide), fun _ => ?_⟩⟩⟩⟩⟩⟩⟩⟩⟩⟩⟩⟩⟩⟩⟩⟩⟩
  refine J_ild S_X10_count rfl rfl ?_
  refine J_C S_X10_count rfl ?_
  refine J_C S_X10_count rfl ?_
  refine J_CSx S_X10_count rfl rfl (by simp) (in_f (by decide)) rfl ?_
  refine J_if S_X10_count rfl (fun c172 => ?_) (fun c172 => False.elim (c172 rfl))
  refine J_ild S_X10_count rfl rfl ?_
  refine J_C S_X10_count rfl ?_
  refine J_C S_X10_count rfl ?_
  refine J_CSx S_X10_count rfl rfl (by simp) (in_t (by decide)) rfl ?_
  refine J_if S_X10_count rfl (fun c197 => False.elim (absurd c197 (by decide))) (fun c197 => ?_)
  refine J_ald S_X10_count rfl rfl ?_
  refine J_getR S_X10_count rfl (o' := 314) (by assumption) (by omega) rfl ?_
  refine J_C S_X10_count rfl ?_
  refine J_ild S_X10_count rfl rfl ?_
  refine J_bin S_X10_count rfl ?_
  refine J_C S_X10_count rfl ?_
  refine J_bin S_X10_count rfl ?_
  refine J_iald S_X10_count rfl (by assumption) (by omega) (j := 14) (by decide) (by omega) (by decide) ?_
  refine J_goto S_X10_count rfl ?_
  refine J_retI S_X10_count rfl ?_
  exact ⟨rfl, rfl⟩
theorem P_count (h : Rl I) (a : Int32) : PRI D_X9_count D_X10_count [.inl a] I := by
  have hRl := h
  obtain ⟨o, n, L, hc, h2, h4⟩ := h
  have m0 := s_0
  have m1 := s_1
  have m2 := s_2
  have m4 := mj_S4.1
  have m5 := mj_B5.1
  have m6 : mj_sh 6 = (2, 3) := mj_B5.2.1
  have m52 := s_52
  have m294 := s_294
  have hR : RB I 5 (I 314) := hc.1.1
  have hI : IV (I 314) := hc.1.2.1
  have hZ : ZB (I 314) := hc.1.2.2.1
  have hn : n ≤ 5 := hc.2.1.2.2.2.1
  have hle : tn (I 314 0) ≤ 200 := hI.1.2
  have hM : ∀ I1, UP I I1 → ∀ (x : mv → Nat → Nat → Int32) (j : Nat), (∀ J : mj_I, IV (J 314) → J 313 2 = nI n → J 313 4 = nI L → mj_R D_X10_count [.inr (some 313), .inl (nI j)] (mj_w J) (mj_ex (some (.inl (x (J 314) n L))) J)) → mj_R D_X10_count [.inr (some 313), .inl (nI j)] (mj_w I1) (mj_ex (some (.inl (x (I 314) n L))) I1) := by
    intro I1 hu x j g
    have e := hu 314 (by decide)
    have g1 := g I1 (by rw [e]; exact hI) (by rw [hu 313 (by decide)]; exact h2) (by rw [hu 313 (by decide)]; exact h4)
    rw [e] at g1
    exact g1
  rcases pk_ix a (n := 23) (by decide) with ha | ha | ⟨j, hj, rfl⟩
  · exact PR_no hRl (X9_count_no (Or.inl ha)) (fun I1 _ => X10_count_no (Or.inl ha))
  · exact PR_no hRl (X9_count_no (Or.inr ha)) (fun I1 _ => X10_count_no (Or.inr ha))
  · rcases (show j = 0 ∨ j = 1 ∨ j = 2 ∨ j = 3 ∨ j = 4 ∨ j = 5 ∨ j = 6 ∨ j = 7 ∨ j = 8 ∨ j = 9 ∨ j = 10 ∨ j = 11 ∨ j = 12 ∨ j = 13 ∨ j = 14 ∨ j = 15 ∨ j = 16 ∨ j = 17 ∨ j = 18 ∨ j = 19 ∨ j = 20 ∨ j = 21 ∨ j = 22 by omega) with rfl | rfl | rfl | rfl | rfl | rfl | rfl | rfl | rfl | rfl | rfl | rfl | rfl | rfl | rfl | rfl | rfl | rfl | rfl | rfl | rfl | rfl | rfl
    · exact PR_no hRl (X9_count_0 hc) (fun I1 hu => hM I1 hu (fun v n L => v 0) 0 (fun J a b c => X10_count_0 a b c))
    · exact PR_no hRl (X9_count_1 hc) (fun I1 hu => hM I1 hu (fun v n L => nI (nV (v) (tn (v 1)))) 1 (fun J a b c => X10_count_1 a b c))
    · exact PR_no hRl (X9_count_2 hc) (fun I1 hu => hM I1 hu (fun v n L => v 1) 2 (fun J a b c => X10_count_2 a b c))
    · exact PR_no hRl (X9_count_3 hc) (fun I1 hu => hM I1 hu (fun v n L => nI (msk (fun k => ex (v) k && bel (v) 0 k) 8)) 3 (fun J a b c => X10_count_3 a b c))
    · exact PR_no hRl (X9_count_4 hc) (fun I1 hu => hM I1 hu (fun v n L => nI (msk (fun k => ex (v) k && bel (v) 1 k) 8)) 4 (fun J a b c => X10_count_4 a b c))
    · exact PR_no hRl (X9_count_5 hc) (fun I1 hu => hM I1 hu (fun v n L => nI (msk (fun k => ex (v) k && bel (v) 3 k) 8)) 5 (fun J a b c => X10_count_5 a b c))
    · exact PR_no hRl (X9_count_6 hc) (fun I1 hu => hM I1 hu (fun v n L => v 2) 6 (fun J a b c => X10_count_6 a b c))
    · exact PR_no hRl (X9_count_7 hc) (fun I1 hu => hM I1 hu (fun v n L => v 3) 7 (fun J a b c => X10_count_7 a b c))
    · exact PR_no hRl (X9_count_8 hc) (fun I1 hu => hM I1 hu (fun v n L => v 4) 8 (fun J a b c => X10_count_8 a b c))
    · exact PR_no hRl (X9_count_9 hc) (fun I1 hu => hM I1 hu (fun v n L => v 5) 9 (fun J a b c => X10_count_9 a b c))
    · exact PR_no hRl (X9_count_10 hc) (fun I1 hu => hM I1 hu (fun v n L => v 6) 10 (fun J a b c => X10_count_10 a b c))
    · exact PR_no hRl (X9_count_11 hc) (fun I1 hu => hM I1 hu (fun v n L => v 7) 11 (fun J a b c => X10_count_11 a b c))
    · exact PR_no hRl (X9_count_12 hc) (fun I1 hu => hM I1 hu (fun v n L => sm (ex (v)) (fun k => vk (v) k 7) 8) 12 (fun J a b c => X10_count_12 a b c))
    · exact PR_no hRl (X9_count_13 hc) (fun I1 hu => hM I1 hu (fun v n L => v 8) 13 (fun J a b c => X10_count_13 a b c))
    · exact PR_no hRl (X9_count_14 hc) (fun I1 hu => hM I1 hu (fun v n L => v 687 + v 1375) 14 (fun J a b c => X10_count_14 a b c))
    · exact PR_no hRl (X9_count_15 hc) (fun I1 hu => hM I1 hu (fun v n L => nI n) 15 (fun J a b c => X10_count_15 a b c))
    · exact PR_no hRl (X9_count_16 hc) (fun I1 hu => hM I1 hu (fun v n L => nI L) 16 (fun J a b c => X10_count_16 a b c))
    · exact PR_no hRl (X9_count_17 hc) (fun I1 hu => hM I1 hu (fun v n L => v 9) 17 (fun J a b c => X10_count_17 a b c))
    · exact PR_no hRl (X9_count_18 hc) (fun I1 hu => hM I1 hu (fun v n L => v 10) 18 (fun J a b c => X10_count_18 a b c))
    · exact PR_no hRl (X9_count_19 hc) (fun I1 hu => hM I1 hu (fun v n L => v 11) 19 (fun J a b c => X10_count_19 a b c))
    · exact PR_no hRl (X9_count_20 hc) (fun I1 hu => hM I1 hu (fun v n L => v 12) 20 (fun J a b c => X10_count_20 a b c))
    · exact PR_no hRl (X9_count_21 hc) (fun I1 hu => hM I1 hu (fun v n L => v 13) 21 (fun J a b c => X10_count_21 a b c))
    · exact PR_no hRl (X9_count_22 hc) (fun I1 hu => hM I1 hu (fun v n L => v 14) 22 (fun J a b c => X10_count_22 a b c))
end P6
