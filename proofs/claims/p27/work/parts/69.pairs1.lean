theorem i_rng {x : Int32} {n : Nat} (hn : n < 2 ^ 31) (h0 : 0 ≤ x) (h1 : x ≤ nI n) : ∃ j, j ≤ n ∧ x = nI j := by
  have h := nn_tn (Int32.not_lt.mpr h0)
  rw [h, nI_leI (tn_lt x) hn] at h1
  exact ⟨tn x, h1, h⟩
theorem i_lt2 (a : Int32) : a < 2 ↔ a ≤ 1 := by
  rw [fa_lt, fa_le, show (2 : Int32).toInt = 2 by decide, show (1 : Int32).toInt = 1 by decide]
  omega
theorem i_lt12 (a : Int32) : a < 12 ↔ a ≤ 11 := by
  rw [fa_lt, fa_le, show (12 : Int32).toInt = 12 by decide, show (11 : Int32).toInt = 11 by decide]
  omega
section P1
variable {I : mj_I}
theorem X9_put_no {a b c : Int32} (h : ¬ ((0 ≤ a ∧ a ≤ 1) ∧ (0 ≤ b ∧ b ≤ 11) ∧ (-1 ≤ c ∧ c ≤ 99))) : mj_R D_X9_put [.inr (some 0), .inl a, .inl b, .inl c] (mj_w I) (mj_ex (some (.inl (-100000001))) I) := by
  have hcell := C_X9_isCell (I := I) (x := a) (y := b)
  refine mj_enter (by decide +kernel) (Nat.le_of_ble_eq_true rfl) ?_
  by_cases h1 : 0 ≤ a ∧ a < 2 ∧ 0 ≤ b ∧ b < 12
  · rw [if_pos h1] at hcell
    have h3 : ¬ (-1 ≤ c ∧ c ≤ 99) := fun h3 => h ⟨⟨h1.1, (i_lt2 a).mp h1.2.1⟩, ⟨h1.2.2.1, (i_lt12 b).mp h1.2.2.2⟩, h3⟩
    refine J_ild S_X9_put rfl rfl ?_
    refine J_ild S_X9_put rfl rfl ?_
    refine J_CSx S_X9_put rfl rfl (by simp) (hcell) rfl ?_
    refine J_if S_X9_put rfl (fun c5 => False.elim (absurd c5 (by decide))) (fun c5 => ?_)
    refine J_ild S_X9_put rfl rfl ?_
    refine J_C S_X9_put rfl ?_
    refine J_cmp S_X9_put rfl (fun c10 => ?_) (fun c10 => ?_)
    · refine J_C S_X9_put rfl ?_
      refine J_retI S_X9_put rfl ?_
      exact ⟨rfl, rfl⟩
    · refine J_ild S_X9_put rfl rfl ?_
      refine J_C S_X9_put rfl ?_
      refine J_cmp S_X9_put rfl (fun c16 => ?_) (fun c16 => ?_)
      · exact absurd ⟨Int32.not_lt.mp c10, c16⟩ h3
      · refine J_C S_X9_put rfl ?_
        refine J_retI S_X9_put rfl ?_
        exact ⟨rfl, rfl⟩
  · rw [if_neg h1] at hcell
    refine J_ild S_X9_put rfl rfl ?_
    refine J_ild S_X9_put rfl rfl ?_
    refine J_CSx S_X9_put rfl rfl (by simp) (hcell) rfl ?_
    refine J_if S_X9_put rfl (fun c5 => ?_) (fun c5 => False.elim (c5 rfl))
    refine J_C S_X9_put rfl ?_
    refine J_retI S_X9_put rfl ?_
    exact ⟨rfl, rfl⟩
theorem X9_cell {a b : Int32} (h1 : 0 ≤ a ∧ a ≤ 1) (h2 : 0 ≤ b ∧ b ≤ 11) : mj_R D_X9_isCell [.inl a, .inl b] (mj_w I) (mj_ex (some (.inl 1)) I) := by
  have hcell := C_X9_isCell (I := I) (x := a) (y := b)
  rw [if_pos ⟨h1.1, (i_lt2 a).mpr h1.2, h2.1, (i_lt12 b).mpr h2.2⟩] at hcell
  exact hcell
theorem X9_grant_no {a : Int32} (h : ¬ (1 ≤ a ∧ a ≤ 999)) : mj_R D_X9_grant [.inr (some 0), .inl a] (mj_w I) (mj_ex (some (.inl (-100000001))) I) := by
  refine mj_enter (by decide +kernel) (Nat.le_of_ble_eq_true rfl) ?_
  refine J_ild S_X9_grant rfl rfl ?_
  refine J_C S_X9_grant rfl ?_
  refine J_cmp S_X9_grant rfl (fun c2 => ?_) (fun c2 => ?_)
  · refine J_C S_X9_grant rfl ?_
    refine J_retI S_X9_grant rfl ?_
    exact ⟨rfl, rfl⟩
  · refine J_ild S_X9_grant rfl rfl ?_
    refine J_C S_X9_grant rfl ?_
    refine J_cmp S_X9_grant rfl (fun c9 => ?_) (fun c9 => ?_)
    · exact absurd ⟨Int32.not_lt.mp c2, c9⟩ h
    · refine J_C S_X9_grant rfl ?_
      refine J_retI S_X9_grant rfl ?_
      exact ⟨rfl, rfl⟩
end P1
