theorem i_rng {x : Int32} {n : Nat} (hn : n < 2 ^ 31) (h0 : 0 ≤ x) (h1 : x ≤ nI n) : ∃ j, j ≤ n ∧ x = nI j := by
  have h := nn_tn (Int32.not_lt.mpr h0)
  rw [h, nI_leI (tn_lt x) hn] at h1
  exact ⟨tn x, h1, h⟩
theorem i_lt2 (a : Int32) : a < 2 ↔ a ≤ 1 := by
  rw [fa_lt, fa_le, show (2 : Int32).toInt = 2 by decide, show (1 : Int32).toInt = 1 by decide]
  omega
theorem i_lt12 (a : Int32) : a < 12 ↔ a ≤ 11 := by
  rw [fa_lt, fa_le, show (12 : Int32).toInt = 12 by decide, show (11 : Int32).toInt = 11 by decide]
  omega
section P1
variable {I : mj_I}
theorem X10_put_no {a b c : Int32} (h : ¬ ((0 ≤ a ∧ a ≤ 1) ∧ (0 ≤ b ∧ b ≤ 11) ∧ (-1 ≤ c ∧ c ≤ 99))) : mj_R D_X10_put [.inr (some 313), .inl a, .inl b, .inl c] (mj_w I) (mj_ex (some (.inl (-100000001))) I) := by
  refine mj_enter (by decide +kernel) (Nat.le_of_ble_eq_true rfl) ?_
  by_cases h1 : 0 ≤ a ∧ a ≤ 1
  · by_cases h2 : 0 ≤ b ∧ b ≤ 11
    · refine J_ild S_X10_put rfl rfl ?_
      refine J_C S_X10_put rfl ?_
      refine J_C S_X10_put rfl ?_
      refine J_CSx S_X10_put rfl rfl (by simp) (in_t h1) rfl ?_
      refine J_if S_X10_put rfl (fun c6 => False.elim (absurd c6 (by decide))) (fun c6 => ?_)
      refine J_ild S_X10_put rfl rfl ?_
      refine J_C S_X10_put rfl ?_
      refine J_C S_X10_put rfl ?_
      refine J_CSx S_X10_put rfl rfl (by simp) (in_t h2) rfl ?_
      refine J_if S_X10_put rfl (fun c16 => False.elim (absurd c16 (by decide))) (fun c16 => ?_)
      refine J_ild S_X10_put rfl rfl ?_
      refine J_C S_X10_put rfl ?_
      refine J_C S_X10_put rfl ?_
      refine J_CSx S_X10_put rfl rfl (by simp) (in_f (fun h3 => h ⟨h1, h2, h3⟩)) rfl ?_
      refine J_if S_X10_put rfl (fun c26 => False.elim (c26 rfl)) (fun c26 => ?_)
      refine J_C S_X10_put rfl ?_
      refine J_retI S_X10_put rfl ?_
      exact ⟨rfl, rfl⟩
    · refine J_ild S_X10_put rfl rfl ?_
      refine J_C S_X10_put rfl ?_
      refine J_C S_X10_put rfl ?_
      refine J_CSx S_X10_put rfl rfl (by simp) (in_t h1) rfl ?_
      refine J_if S_X10_put rfl (fun c6 => False.elim (absurd c6 (by decide))) (fun c6 => ?_)
      refine J_ild S_X10_put rfl rfl ?_
      refine J_C S_X10_put rfl ?_
      refine J_C S_X10_put rfl ?_
      refine J_CSx S_X10_put rfl rfl (by simp) (in_f h2) rfl ?_
      refine J_if S_X10_put rfl (fun c16 => ?_) (fun c16 => False.elim (c16 rfl))
      refine J_C S_X10_put rfl ?_
      refine J_retI S_X10_put rfl ?_
      exact ⟨rfl, rfl⟩
  · refine J_ild S_X10_put rfl rfl ?_
    refine J_C S_X10_put rfl ?_
    refine J_C S_X10_put rfl ?_
    refine J_CSx S_X10_put rfl rfl (by simp) (in_f h1) rfl ?_
    refine J_if S_X10_put rfl (fun c6 => ?_) (fun c6 => False.elim (c6 rfl))
    refine J_C S_X10_put rfl ?_
    refine J_retI S_X10_put rfl ?_
    exact ⟨rfl, rfl⟩
theorem X10_put_full {a b c : Int32} (h1 : 0 ≤ a ∧ a ≤ 1) (h2 : 0 ≤ b ∧ b ≤ 11) (h3 : -1 ≤ c ∧ c ≤ 99) (h : I 314 0 = 200) : mj_R D_X10_put [.inr (some 313), .inl a, .inl b, .inl c] (mj_w I) (mj_ex (some (.inl (-100000003))) I) := by
  have m0 := s_313
  have m1 := s_314
  refine mj_enter (by decide +kernel) (Nat.le_of_ble_eq_true rfl) ?_
  refine J_ild S_X10_put rfl rfl ?_
  refine J_C S_X10_put rfl ?_
  refine J_C S_X10_put rfl ?_
  refine J_CSx S_X10_put rfl rfl (by simp) (in_t h1) rfl ?_
  refine J_if S_X10_put rfl (fun c6 => False.elim (absurd c6 (by decide))) (fun c6 => ?_)
  refine J_ild S_X10_put rfl rfl ?_
  refine J_C S_X10_put rfl ?_
  refine J_C S_X10_put rfl ?_
  refine J_CSx S_X10_put rfl rfl (by simp) (in_t h2) rfl ?_
  refine J_if S_X10_put rfl (fun c16 => False.elim (absurd c16 (by decide))) (fun c16 => ?_)
  refine J_ild S_X10_put rfl rfl ?_
  refine J_C S_X10_put rfl ?_
  refine J_C S_X10_put rfl ?_
  refine J_CSx S_X10_put rfl rfl (by simp) (in_t h3) rfl ?_
  refine J_if S_X10_put rfl (fun c26 => ?_) (fun c26 => False.elim (absurd c26 (by decide)))
  refine J_ald S_X10_put rfl rfl ?_
  refine J_getR S_X10_put rfl (o' := 314) (by assumption) (by omega) rfl ?_
  refine J_C S_X10_put rfl ?_
  refine J_iald S_X10_put rfl (by assumption) (by omega) (j := 0) rfl (by omega) (by decide) ?_
  refine J_C S_X10_put rfl ?_
  refine J_cmp S_X10_put rfl (fun c41 => False.elim (c41 h)) (fun c41 => ?_)
  refine J_C S_X10_put rfl ?_
  refine J_retI S_X10_put rfl ?_
  exact ⟨rfl, rfl⟩
theorem X9_put_no {a b c : Int32} (h : ¬ ((0 ≤ a ∧ a ≤ 1) ∧ (0 ≤ b ∧ b ≤ 11) ∧ (-1 ≤ c ∧ c ≤ 99))) : mj_R D_X9_put [.inr (some 0), .inl a, .inl b, .inl c] (mj_w I) (mj_ex (some (.inl (-100000001))) I) := by
  have hcell := C_X9_isCell (I := I) (x := a) (y := b)
  refine mj_enter (by decide +kernel) (Nat.le_of_ble_eq_true rfl) ?_
  by_cases h1 : 0 ≤ a ∧ a < 2 ∧ 0 ≤ b ∧ b < 12
  · rw [if_pos h1] at hcell
    have h3 : ¬ (-1 ≤ c ∧ c ≤ 99) := fun h3 => h ⟨⟨h1.1, (i_lt2 a).mp h1.2.1⟩, ⟨h1.2.2.1, (i_lt12 b).mp h1.2.2.2⟩, h3⟩
    refine J_ild S_X9_put rfl rfl ?_
    refine J_ild S_X9_put rfl rfl ?_
    refine J_CSx S_X9_put rfl rfl (by simp) (hcell) rfl ?_
    refine J_if S_X9_put rfl (fun c5 => False.elim (absurd c5 (by decide))) (fun c5 => ?_)
    refine J_ild S_X9_put rfl rfl ?_
    refine J_C S_X9_put rfl ?_
    refine J_cmp S_X9_put rfl (fun c10 => ?_) (fun c10 => ?_)
    · refine J_C S_X9_put rfl ?_
      refine J_retI S_X9_put rfl ?_
      exact ⟨rfl, rfl⟩
    · refine J_ild S_X9_put rfl rfl ?_
      refine J_C S_X9_put rfl ?_
      refine J_cmp S_X9_put rfl (fun c16 => ?_) (fun c16 => ?_)
      · exact absurd ⟨Int32.not_lt.mp c10, c16⟩ h3
      · refine J_C S_X9_put rfl ?_
        refine J_retI S_X9_put rfl ?_
        exact ⟨rfl, rfl⟩
  · rw [if_neg h1] at hcell
    refine J_ild S_X9_put rfl rfl ?_
    refine J_ild S_X9_put rfl rfl ?_
    refine J_CSx S_X9_put rfl rfl (by simp) (hcell) rfl ?_
    refine J_if S_X9_put rfl (fun c5 => ?_) (fun c5 => False.elim (c5 rfl))
    refine J_C S_X9_put rfl ?_
    refine J_retI S_X9_put rfl ?_
    exact ⟨rfl, rfl⟩
theorem X9_cell {a b : Int32} (h1 : 0 ≤ a ∧ a ≤ 1) (h2 : 0 ≤ b ∧ b ≤ 11) : mj_R D_X9_isCell [.inl a, .inl b] (mj_w I) (mj_ex (some (.inl 1)) I) := by
  have hcell := C_X9_isCell (I := I) (x := a) (y := b)
  rw [if_pos ⟨h1.1, (i_lt2 a).mpr h1.2, h2.1, (i_lt12 b).mpr h2.2⟩] at hcell
  exact hcell
theorem P_put (h : Rl I) (a b c : Int32) : PRI D_X9_put D_X10_put [.inl a, .inl b, .inl c] I := by
  have hRl := h
  obtain ⟨o, n, L, hc, h2, h4⟩ := h
  have m0 := s_0
  have m1 := s_1
  have m2 := s_2
  have m4 := mj_S4.1
  have m5 := mj_B5.1
  have m6 : mj_sh 6 = (2, 3) := mj_B5.2.1
  have m52 := s_52
  have m294 := s_294
  have hR : RB I 5 (I 314) := hc.1.1
  have hI : IV (I 314) := hc.1.2.1
  have hZ : ZB (I 314) := hc.1.2.2.1
  have hn : n ≤ 5 := hc.2.1.2.2.2.1
  have hle : tn (I 314 0) ≤ 200 := hI.1.2
  by_cases hno : (0 ≤ a ∧ a ≤ 1) ∧ (0 ≤ b ∧ b ≤ 11) ∧ (-1 ≤ c ∧ c ≤ 99)
  · obtain ⟨q1, q2, q3⟩ := hno
    have hcell := X9_cell (I := I) q1 q2
    have hfl := C_X2_isFull (I := I) mj_B5
    have e0 : I 6 2 = nI (tn (I 314 0)) := by rw [← hI.1.1]; exact hR.1
    have le := hI.1.2
    have hlow : ¬ c < -1 := Int32.not_lt.mpr q3.1
    by_cases hl : tn (I 314 0) < 200
    · obtain ⟨ja, hja, rfl⟩ := i_rng (n := 1) (by decide) q1.1 q1.2
      obtain ⟨jb, hjb, rfl⟩ := i_rng (n := 11) (by decide) q2.1 q2.2
      rw [if_pos (by rw [show I (5 + 1) 2 = nI (tn (I 314 0)) from e0]; exact nI_lt (b := 200) hl (by decide))] at hfl
      have ha : rg (nI ja) 1 := rg_nI hja (by decide)
      have hb : rg (nI jb) 11 := rg_nI hjb (by decide)
      have hx : c = -1 ∨ rg c 99 := by
        by_cases e : c = -1
        · exact Or.inl e
        · right
          have h0 : 0 ≤ c := by
            have q := q3.1
            rw [fa_le, show (-1 : Int32).toInt = -1 by decide] at q
            rw [fa_eq, show (-1 : Int32).toInt = -1 by decide] at e
            rw [fa_le, show (0 : Int32).toInt = 0 by decide]
            omega
          obtain ⟨jc, hjc, rfl⟩ := i_rng (n := 99) (by decide) h0 q3.2
          exact rg_nI hjc (by decide)
      refine PR_act (x := nI (tn (I 314 0))) (n := n) (w' := putV (I 314) (nI ja) (nI jb) c) (w'' := putV (I 314) (nI ja) (nI jb) c) h4 ?_ (fun I1 hu => ?_) (fun _ _ => rfl)
      · refine mj_enter (by decide +kernel) (Nat.le_of_ble_eq_true rfl) ?_
        have hrec := Z_rec hc
        have hco := fun J => C_X9_cellOf (I := J) (x := nI ja) (y := nI jb)
        have ec : nI ja * 12 + nI jb = nI (12 * tn (nI ja) + tn (nI jb)) := by
          rw [tn_nI (by omega), tn_nI (by omega), show (12 : Int32) = nI 12 from rfl, pk_mul, nI_add, Nat.mul_comm]
        refine J_ild S_X9_put rfl rfl ?_
        refine J_ild S_X9_put rfl rfl ?_
        refine J_CSx S_X9_put rfl rfl (by simp) (hcell) rfl ?_
        refine J_if S_X9_put rfl (fun c5 => False.elim (absurd c5 (by decide))) (fun c5 => ?_)
        refine J_ild S_X9_put rfl rfl ?_
        refine J_C S_X9_put rfl ?_
        refine J_cmp S_X9_put rfl (fun c10 => False.elim (hlow c10)) (fun c10 => ?_)
        refine J_ild S_X9_put rfl rfl ?_
        refine J_C S_X9_put rfl ?_
        refine J_cmp S_X9_put rfl (fun c16 => ?_) (fun c16 => False.elim (c16 q3.2))
        refine J_ald S_X9_put rfl rfl ?_
        refine J_getR S_X9_put rfl (o' := 4) (by assumption) (by omega) rfl ?_
        refine J_getR S_X9_put rfl (o' := 5) (by assumption) (by omega) rfl ?_
        refine J_getR S_X9_put rfl (o' := 6) (by assumption) (by omega) rfl ?_
        refine J_ast S_X9_put rfl rfl ?_
        refine J_ald S_X9_put rfl rfl ?_
        refine J_CVx S_X9_put rfl rfl (by assumption) (by omega) (by simp) (hfl) rfl ?_
        refine J_if S_X9_put rfl (fun c39 => ?_) (fun c39 => False.elim (c39 rfl))
        refine J_ald S_X9_put rfl rfl ?_
        refine J_getR S_X9_put rfl (o' := 52) (by assumption) (by omega) rfl ?_
        refine J_ald S_X9_put rfl rfl ?_
        refine J_getR S_X9_put rfl (o' := 4) (by assumption) (by omega) rfl ?_
        refine J_CV S_X9_put rfl rfl (by assumption) (by omega) (by simp) (hrec) ?_
        rintro _ _ ⟨I1, rfl, rfl, hr⟩
        refine J_ald S_X9_put rfl rfl ?_
        refine J_ild S_X9_put rfl rfl ?_
        refine J_ild S_X9_put rfl rfl ?_
        refine J_CSx S_X9_put rfl rfl (by simp) (hco _) rfl ?_
        rw [ec]
        refine J_ild S_X9_put rfl rfl ?_
        refine J_CVx S_X9_put rfl rfl (by assumption) (by omega) (by simp) (C_X2_add mj_B5 (n := tn (I 314 0)) hl (by rw [hr.1 (5 + 1) (by omega)]; exact e0)) rfl ?_
        refine J_retI S_X9_put rfl ?_
        have g := RC_B hc hr (put_R (RC_R hc hr).1 hI hl ha hb) (fr_up (fr_up (fr_up fr_rf (by omega) (by omega)) (by omega) (by omega)) (by omega) (by omega)) (put_I hI hl ha hb hx) (put_Z hZ hl) (fun i hi => put_h hl hi)
        exact ⟨_, rfl, rfl, g.2, _, g.1⟩
      · have e := hu 314 (by decide)
        have g := C_X10_put (I := I1) (n := n) (a := ja) (c := jb) (x := c) (by rw [e]; exact hI) (by rw [hu 313 (by decide)]; exact h2) hn (by omega) (by omega) q3 (by rw [e]; exact hl)
        rw [e] at g
        exact g
    · have e200 : tn (I 314 0) = 200 := by omega
      rw [if_neg (by rw [show I (5 + 1) 2 = nI (tn (I 314 0)) from e0, e200]; decide)] at hfl
      refine PR_no (x := -100000003) hRl ?_ (fun I1 hu => ?_)
      · refine mj_enter (by decide +kernel) (Nat.le_of_ble_eq_true rfl) ?_
        refine J_ild S_X9_put rfl rfl ?_
        refine J_ild S_X9_put rfl rfl ?_
        refine J_CSx S_X9_put rfl rfl (by simp) (hcell) rfl ?_
        refine J_if S_X9_put rfl (fun c5 => False.elim (absurd c5 (by decide))) (fun c5 => ?_)
        refine J_ild S_X9_put rfl rfl ?_
        refine J_C S_X9_put rfl ?_
        refine J_cmp S_X9_put rfl (fun c10 => False.elim (hlow c10)) (fun c10 => ?_)
        refine J_ild S_X9_put rfl rfl ?_
        refine J_C S_X9_put rfl ?_
        refine J_cmp S_X9_put rfl (fun c16 => ?_) (fun c16 => False.elim (c16 q3.2))
        refine J_ald S_X9_put rfl rfl ?_
        refine J_getR S_X9_put rfl (o' := 4) (by assumption) (by omega) rfl ?_
        refine J_getR S_X9_put rfl (o' := 5) (by assumption) (by omega) rfl ?_
        refine J_getR S_X9_put rfl (o' := 6) (by assumption) (by omega) rfl ?_
        refine J_ast S_X9_put rfl rfl ?_
        refine J_ald S_X9_put rfl rfl ?_
        refine J_CVx S_X9_put rfl rfl (by assumption) (by omega) (by simp) (hfl) rfl ?_
        refine J_if S_X9_put rfl (fun c39 => False.elim (absurd c39 (by decide))) (fun c39 => ?_)
        refine J_C S_X9_put rfl ?_
        refine J_retI S_X9_put rfl ?_
        exact ⟨rfl, rfl⟩
      · exact X10_put_full q1 q2 q3 (by rw [hu 314 (by decide), hI.1.1, e200]; rfl)
  · exact PR_no (x := -100000001) hRl (X9_put_no hno) (fun I1 _ => X10_put_no hno)
theorem X10_grant_no {a : Int32} (h : ¬ (1 ≤ a ∧ a ≤ 999)) : mj_R D_X10_grant [.inr (some 313), .inl a] (mj_w I) (mj_ex (some (.inl (-100000001))) I) := by
  refine mj_enter (by decide +kernel) (Nat.le_of_ble_eq_true rfl) ?_
  refine J_ild S_X10_grant rfl rfl ?_
  refine J_C S_X10_grant rfl ?_
  refine J_C S_X10_grant rfl ?_
  refine J_CSx S_X10_grant rfl rfl (by simp) (in_f h) rfl ?_
  refine J_if S_X10_grant rfl (fun c8 => False.elim (c8 rfl)) (fun c8 => ?_)
  refine J_C S_X10_grant rfl ?_
  refine J_retI S_X10_grant rfl ?_
  exact ⟨rfl, rfl⟩
theorem X10_grant_full {a : Int32} (h1 : 1 ≤ a ∧ a ≤ 999) (h : ¬ I 314 2 + a ≤ 9999) : mj_R D_X10_grant [.inr (some 313), .inl a] (mj_w I) (mj_ex (some (.inl (-100000003))) I) := by
  have m0 := s_313
  have m1 := s_314
  refine mj_enter (by decide +kernel) (Nat.le_of_ble_eq_true rfl) ?_
  refine J_ild S_X10_grant rfl rfl ?_
  refine J_C S_X10_grant rfl ?_
  refine J_C S_X10_grant rfl ?_
  refine J_CSx S_X10_grant rfl rfl (by simp) (in_t h1) rfl ?_
  refine J_if S_X10_grant rfl (fun c8 => ?_) (fun c8 => False.elim (absurd c8 (by decide)))
  refine J_ald S_X10_grant rfl rfl ?_
  refine J_getR S_X10_grant rfl (o' := 314) (by assumption) (by omega) rfl ?_
  refine J_C S_X10_grant rfl ?_
  refine J_iald S_X10_grant rfl (by assumption) (by omega) (j := 2) rfl (by omega) (by decide) ?_
  refine J_ild S_X10_grant rfl rfl ?_
  refine J_bin S_X10_grant rfl ?_
  refine J_C S_X10_grant rfl ?_
  refine J_cmp S_X10_grant rfl (fun c25 => False.elim (h c25)) (fun c25 => ?_)
  refine J_C S_X10_grant rfl ?_
  refine J_retI S_X10_grant rfl ?_
  exact ⟨rfl, rfl⟩
theorem X9_grant_no {a : Int32} (h : ¬ (1 ≤ a ∧ a ≤ 999)) : mj_R D_X9_grant [.inr (some 0), .inl a] (mj_w I) (mj_ex (some (.inl (-100000001))) I) := by
  refine mj_enter (by decide +kernel) (Nat.le_of_ble_eq_true rfl) ?_
  refine J_ild S_X9_grant rfl rfl ?_
  refine J_C S_X9_grant rfl ?_
  refine J_cmp S_X9_grant rfl (fun c2 => ?_) (fun c2 => ?_)
  · refine J_C S_X9_grant rfl ?_
    refine J_retI S_X9_grant rfl ?_
    exact ⟨rfl, rfl⟩
  · refine J_ild S_X9_grant rfl rfl ?_
    refine J_C S_X9_grant rfl ?_
    refine J_cmp S_X9_grant rfl (fun c9 => ?_) (fun c9 => ?_)
    · exact absurd ⟨Int32.not_lt.mp c2, c9⟩ h
    · refine J_C S_X9_grant rfl ?_
      refine J_retI S_X9_grant rfl ?_
      exact ⟨rfl, rfl⟩
theorem P_grant (h : Rl I) (a : Int32) : PRI D_X9_grant D_X10_grant [.inl a] I := by
  have hRl := h
  obtain ⟨o, n, L, hc, h2, h4⟩ := h
  have m0 := s_0
  have m1 := s_1
  have m2 := s_2
  have m4 := mj_S4.1
  have m5 := mj_B5.1
  have m6 : mj_sh 6 = (2, 3) := mj_B5.2.1
  have m52 := s_52
  have m294 := s_294
  have hR : RB I 5 (I 314) := hc.1.1
  have hI : IV (I 314) := hc.1.2.1
  have hZ : ZB (I 314) := hc.1.2.2.1
  have hn : n ≤ 5 := hc.2.1.2.2.2.1
  have hle : tn (I 314 0) ≤ 200 := hI.1.2
  have et : I 5 5 = I 314 2 := hR.2.1 1 (by decide)
  by_cases hno : 1 ≤ a ∧ a ≤ 999
  · have hlow : ¬ a < 1 := Int32.not_lt.mpr hno.1
    by_cases hf : I 314 2 + a ≤ 9999
    · obtain ⟨ja, hja, rfl⟩ := i_rng (n := 999) (by decide) (by
        have := hno.1
        rw [fa_le] at this ⊢
        rw [show (0 : Int32).toInt = 0 by decide]
        rw [show (1 : Int32).toInt = 1 by decide] at this
        omega) hno.2
      have hja1 : 1 ≤ ja := (nI_leI (a := 1) (by decide) (by omega)).mp hno.1
      have e2 := hI.2.2.1
      have hs : tn (I 314 2) + ja ≤ 9999 := by
        rw [e2.1, nI_add] at hf
        exact (nI_leI (b := 9999) (by have := e2.2; omega) (by decide)).mp hf
      have hw : IV (upd (upd (I 314) 2 (I 314 2 + nI ja)) 3 (I 314 3 + nI ja)) := IV_acc (IV_tre hI (by
        rw [e2.1, nI_add]
        exact rg_nI hs (by decide))) (by decide)
      refine PR_act (x := I 314 2 + nI ja) (n := n) (w' := upd (upd (I 314) 2 (I 314 2 + nI ja)) 3 (I 314 3 + nI ja)) (w'' := upd (upd (I 314) 2 (I 314 2 + nI ja)) 3 (I 314 3 + nI ja)) h4 ?_ (fun I1 hu => ?_) (fun _ _ => rfl)
      · refine mj_enter (by decide +kernel) (Nat.le_of_ble_eq_true rfl) ?_
        have hrec := Z_rec hc
        refine J_ild S_X9_grant rfl rfl ?_
        refine J_C S_X9_grant rfl ?_
        refine J_cmp S_X9_grant rfl (fun c2 => False.elim (hlow c2)) (fun c2 => ?_)
        refine J_ild S_X9_grant rfl rfl ?_
        refine J_C S_X9_grant rfl ?_
        refine J_cmp S_X9_grant rfl (fun c9 => ?_) (fun c9 => False.elim (c9 hno.2))
        refine J_ald S_X9_grant rfl rfl ?_
        refine J_getR S_X9_grant rfl (o' := 4) (by assumption) (by omega) rfl ?_
        refine J_getR S_X9_grant rfl (o' := 5) (by assumption) (by omega) rfl ?_
        refine J_ast S_X9_grant rfl rfl ?_
        refine J_ald S_X9_grant rfl rfl ?_
        refine J_getI S_X9_grant rfl (by assumption) (by omega) ?_
        refine J_ild S_X9_grant rfl rfl ?_
        rw [et]
        refine J_bin S_X9_grant rfl ?_
        refine J_C S_X9_grant rfl ?_
        refine J_cmp S_X9_grant rfl (fun c32 => ?_) (fun c32 => False.elim (c32 hf))
        refine J_ald S_X9_grant rfl rfl ?_
        refine J_getR S_X9_grant rfl (o' := 52) (by assumption) (by omega) rfl ?_
        refine J_ald S_X9_grant rfl rfl ?_
        refine J_getR S_X9_grant rfl (o' := 4) (by assumption) (by omega) rfl ?_
        refine J_CV S_X9_grant rfl rfl (by assumption) (by omega) (by simp) (hrec) ?_
        rintro _ _ ⟨I1, rfl, rfl, hr⟩
        refine J_ald S_X9_grant rfl rfl ?_
        refine J_ild S_X9_grant rfl rfl ?_
        refine J_CVx S_X9_grant rfl rfl (by assumption) (by omega) (by simp) (C_X0_receive mj_B5) rfl ?_
        refine J_ald S_X9_grant rfl rfl ?_
        refine J_getI S_X9_grant rfl (by assumption) (by omega) ?_
        refine J_retI S_X9_grant rfl ?_
        have e5 : I1 5 5 = I 314 2 := by rw [hr.1 5 (by decide)]; exact et
        have e6 : I1 5 6 = I 314 3 := by rw [hr.1 5 (by decide)]; exact hR.2.1 2 (by decide)
        rw [e5, e6]
        have g := RC_B hc hr (RB_ac (i := 2) (x := I 314 3 + nI ja) (by rw [up_n (by decide)]; exact hle) (RB_ac (i := 1) (x := I 314 2 + nI ja) hle (RC_R hc hr).1 (by decide)) (by decide)) (fr_up (fr_up fr_rf (by omega) (by omega)) (by omega) (by omega)) hw (ZB_up (ZB_up hZ (by decide)) (by decide)) (fun i hi => by rw [up_n (by omega), up_n (by omega)])
        exact ⟨_, rfl, rfl, g.2, _, g.1⟩
      · have e := hu 314 (by decide)
        have g := C_X10_grant (I := I1) (n := n) (c := ja) (by rw [e]; exact hI) (by rw [hu 313 (by decide)]; exact h2) hn hja1 hja (by rw [e]; exact hs)
        rw [e] at g
        exact g
    · refine PR_no (x := -100000003) hRl ?_ (fun I1 hu => X10_grant_full hno (by rw [hu 314 (by decide)]; exact hf))
      refine mj_enter (by decide +kernel) (Nat.le_of_ble_eq_true rfl) ?_
      refine J_ild S_X9_grant rfl rfl ?_
      refine J_C S_X9_grant rfl ?_
      refine J_cmp S_X9_grant rfl (fun c2 => False.elim (hlow c2)) (fun c2 => ?_)
      refine J_ild S_X9_grant rfl rfl ?_
      refine J_C S_X9_grant rfl ?_
      refine J_cmp S_X9_grant rfl (fun c9 => ?_) (fun c9 => False.elim (c9 hno.2))
      refine J_ald S_X9_grant rfl rfl ?_
      refine J_getR S_X9_grant rfl (o' := 4) (by assumption) (by omega) rfl ?_
      refine J_getR S_X9_grant rfl (o' := 5) (by assumption) (by omega) rfl ?_
      refine J_ast S_X9_grant rfl rfl ?_
      refine J_ald S_X9_grant rfl rfl ?_
      refine J_getI S_X9_grant rfl (by assumption) (by omega) ?_
      refine J_ild S_X9_grant rfl rfl ?_
      rw [et]
      refine J_bin S_X9_grant rfl ?_
      refine J_C S_X9_grant rfl ?_
      refine J_cmp S_X9_grant rfl (fun c32 => False.elim (hf c32)) (fun c32 => ?_)
      refine J_C S_X9_grant rfl ?_
      refine J_retI S_X9_grant rfl ?_
      exact ⟨rfl, rfl⟩
  · exact PR_no (x := -100000001) hRl (X9_grant_no hno) (fun I1 _ => X10_grant_no hno)
end P1
