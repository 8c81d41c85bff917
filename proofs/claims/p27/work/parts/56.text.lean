theorem s_1 : mj_sh 1 = (3, 8) := by decide +kernel
theorem s_2 : mj_sh 2 = (7, 2) := by decide +kernel
theorem s_3 : mj_sh 3 = (11, 40) := by decide +kernel
section Tx
variable {I : mj_I}
theorem C_X7_isFull {n : Nat} (hn : n ≤ 40) (h : I 2 1 = nI n) : mj_R D_X7_isFull [.inr (some 2)] (mj_w I) (mj_ex (some (.inl (if n < 40 then 0 else 1))) I) := by
  have m0 := s_2
  refine mj_enter (by decide +kernel) (Nat.le_of_ble_eq_true rfl) ?_
  by_cases c : n < 40
  · rw [if_pos c]
    refine J_ald S_X7_isFull rfl rfl ?_
    refine J_getI S_X7_isFull rfl (by assumption) (by omega) ?_
    rw [h]
    refine J_C S_X7_isFull rfl ?_
    refine J_cmp S_X7_isFull rfl (fun c6 => ?_) (fun c6 => False.elim (c6 (nI_lt (b := 40) c (by decide))))
    refine J_C S_X7_isFull rfl ?_
    refine J_retZ S_X7_isFull rfl (by decide) ?_
    exact ⟨rfl, rfl⟩
  · rw [if_neg c]
    refine J_ald S_X7_isFull rfl rfl ?_
    refine J_getI S_X7_isFull rfl (by assumption) (by omega) ?_
    rw [h]
    refine J_C S_X7_isFull rfl ?_
    refine J_cmp S_X7_isFull rfl (fun c6 => False.elim (nI_nlt (b := 40) (by omega) (by omega) c6)) (fun c6 => ?_)
    refine J_C S_X7_isFull rfl ?_
    refine J_goto S_X7_isFull rfl ?_
    refine J_retZ S_X7_isFull rfl (by decide) ?_
    exact ⟨rfl, rfl⟩
theorem C_X7_add {n : Nat} {x : Int32} (hn : n < 40) (h : I 2 1 = nI n) : mj_R D_X7_add [.inr (some 2), .inl x] (mj_w I) (mj_ex none (mj_up (mj_up I 3 n x) 2 1 (nI (n + 1)))) := by
  have m0 := s_2
  have m1 := s_3
  refine mj_enter (by decide +kernel) (Nat.le_of_ble_eq_true rfl) ?_
  refine J_ald S_X7_add rfl rfl ?_
  refine J_getI S_X7_add rfl (by assumption) (by omega) ?_
  rw [h]
  refine J_if S_X7_add rfl (fun c4 => False.elim (nI_pos (by omega) c4)) (fun c4 => ?_)
  refine J_ald S_X7_add rfl rfl ?_
  refine J_getI S_X7_add rfl (by assumption) (by omega) ?_
  rw [h]
  refine J_ald S_X7_add rfl rfl ?_
  refine J_getR S_X7_add rfl (by assumption) (by omega) rfl ?_
  refine J_len S_X7_add rfl (by assumption) (by omega) (by decide) ?_
  refine J_cmp S_X7_add rfl (fun c16 => False.elim (nI_ge (b := 40) hn (by decide) c16)) (fun c16 => ?_)
  refine J_ald S_X7_add rfl rfl ?_
  refine J_getR S_X7_add rfl (by assumption) (by omega) rfl ?_
  refine J_ald S_X7_add rfl rfl ?_
  refine J_getI S_X7_add rfl (by assumption) (by omega) ?_
  rw [h]
  refine J_ild S_X7_add rfl rfl ?_
  refine J_iast S_X7_add rfl (by assumption) (by omega) (j := n) rfl hn (by decide) ?_
  refine J_ald S_X7_add rfl rfl ?_
  refine J_dup S_X7_add rfl ?_
  refine J_getI S_X7_add rfl (by assumption) (by omega) ?_
  rw [mj_up_ne (show (2 : Nat) ≠ 3 by decide), h]
  refine J_C S_X7_add rfl ?_
  refine J_bin S_X7_add rfl ?_
  rw [← nI_succ]
  refine J_putI S_X7_add rfl (by assumption) (by omega) ?_
  refine J_retV S_X7_add rfl ?_
  exact ⟨rfl, rfl⟩
theorem C_X7_empty : mj_R D_X7_empty [.inr (some 2)] (mj_w I) (mj_ex none (mj_up I 2 1 0)) := by
  have m0 := s_2
  refine mj_enter (by decide +kernel) (Nat.le_of_ble_eq_true rfl) ?_
  refine J_ald S_X7_empty rfl rfl ?_
  refine J_C S_X7_empty rfl ?_
  refine J_putI S_X7_empty rfl (by assumption) (by omega) ?_
  refine J_retV S_X7_empty rfl ?_
  exact ⟨rfl, rfl⟩
theorem C_X7_at {n i : Nat} (hn : n ≤ 40) (h : I 2 1 = nI n) (hi : i < 2 ^ 31) : mj_R D_X7_at [.inr (some 2), .inl (nI i)] (mj_w I) (mj_ex (some (.inl (if i < n then I 3 i else 0))) I) := by
  have m0 := s_2
  have m1 := s_3
  refine mj_enter (by decide +kernel) (Nat.le_of_ble_eq_true rfl) ?_
  by_cases c : i < n
  · rw [if_pos c]
    refine J_ild S_X7_at rfl rfl ?_
    refine J_if S_X7_at rfl (fun c1 => False.elim (nI_pos hi c1)) (fun c1 => ?_)
    refine J_ild S_X7_at rfl rfl ?_
    refine J_ald S_X7_at rfl rfl ?_
    refine J_getI S_X7_at rfl (by assumption) (by omega) ?_
    rw [h]
    refine J_cmp S_X7_at rfl (fun c9 => False.elim (nI_ge c (by omega) c9)) (fun c9 => ?_)
    refine J_ild S_X7_at rfl rfl ?_
    refine J_ald S_X7_at rfl rfl ?_
    refine J_getR S_X7_at rfl (by assumption) (by omega) rfl ?_
    refine J_len S_X7_at rfl (by assumption) (by omega) (by decide) ?_
    refine J_cmp S_X7_at rfl (fun c18 => False.elim (nI_ge (b := 40) (by omega) (by decide) c18)) (fun c18 => ?_)
    refine J_ald S_X7_at rfl rfl ?_
    refine J_getR S_X7_at rfl (by assumption) (by omega) rfl ?_
    refine J_ild S_X7_at rfl rfl ?_
    refine J_iald S_X7_at rfl (by assumption) (by omega) (j := i) rfl (by omega) (by decide) ?_
    refine J_goto S_X7_at rfl ?_
    refine J_retI S_X7_at rfl ?_
    exact ⟨rfl, rfl⟩
  · rw [if_neg c]
    refine J_ild S_X7_at rfl rfl ?_
    refine J_if S_X7_at rfl (fun c1 => False.elim (nI_pos hi c1)) (fun c1 => ?_)
    refine J_ild S_X7_at rfl rfl ?_
    refine J_ald S_X7_at rfl rfl ?_
    refine J_getI S_X7_at rfl (by assumption) (by omega) ?_
    rw [h]
    refine J_cmp S_X7_at rfl (fun c9 => ?_) (fun c9 => False.elim (c9 (nI_le (by omega) hi)))
    refine J_C S_X7_at rfl ?_
    refine J_retI S_X7_at rfl ?_
    exact ⟨rfl, rfl⟩
end Tx
