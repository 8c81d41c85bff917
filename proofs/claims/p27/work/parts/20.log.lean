def mj_isB (b : Nat) : Prop := mj_sh b = (0, 12) ∧ mj_sh (b + 1) = (2, 3) ∧ mj_sh (b + 2) = (11, 200) ∧ mj_sh (b + 3) = (11, 200) ∧ mj_sh (b + 4) = (13, 8) ∧ mj_sh (b + 5) = (11, 6) ∧ mj_sh (b + 6) = (11, 8) ∧ (∀ k, k < 8 → mj_sh (b + 7 + k) = (8, 11)) ∧ b + 14 < 313
section Lg
variable {I : mj_I} {b : Nat}
theorem C_X2_isFull (hB : mj_isB b) : mj_R D_X2_isFull [.inr (some (b + 1))] (mj_w I) (mj_ex (some (.inl (if I (b + 1) 2 < 200 then 0 else 1))) I) := by
  obtain ⟨h0, h1, h2, h3, h4, h5, h6, hv, hb⟩ := hB
  refine mj_enter (by decide +kernel) (Nat.le_of_ble_eq_true rfl) ?_
  refine J_ald S_X2_isFull rfl rfl ?_
  refine J_getI S_X2_isFull rfl (by assumption) (by omega) ?_
  refine J_C S_X2_isFull rfl ?_
  refine J_cmp S_X2_isFull rfl (fun c7 => ?_) (fun c7 => ?_)
  · refine J_C S_X2_isFull rfl ?_
    refine J_retZ S_X2_isFull rfl (by decide) ?_
    rw [if_pos c7]; exact ⟨rfl, rfl⟩
  · refine J_C S_X2_isFull rfl ?_
    refine J_goto S_X2_isFull rfl ?_
    refine J_retZ S_X2_isFull rfl (by decide) ?_
    rw [if_neg c7]; exact ⟨rfl, rfl⟩
theorem C_X2_cell (hB : mj_isB b) {j : Nat} (hj : j < 200) : mj_R D_X2_cell [.inr (some (b + 1)), .inl (nI j)] (mj_w I) (mj_ex (some (.inl (I (b + 2) j))) I) := by
  obtain ⟨h0, h1, h2, h3, h4, h5, h6, hv, hb⟩ := hB
  refine mj_enter (by decide +kernel) (Nat.le_of_ble_eq_true rfl) ?_
  refine J_ild S_X2_cell rfl rfl ?_
  refine J_if S_X2_cell rfl (fun c1 => False.elim (nI_pos (by omega) c1)) (fun c1 => ?_)
  refine J_ild S_X2_cell rfl rfl ?_
  refine J_ald S_X2_cell rfl rfl ?_
  refine J_getR S_X2_cell rfl (by assumption) (by omega) rfl ?_
  refine J_len S_X2_cell rfl (by assumption) (by omega) (by decide) ?_
  refine J_cmp S_X2_cell rfl (fun c10 => False.elim (nI_ge hj (by omega) c10)) (fun c10 => ?_)
  refine J_ald S_X2_cell rfl rfl ?_
  refine J_getR S_X2_cell rfl (by assumption) (by omega) rfl ?_
  refine J_ild S_X2_cell rfl rfl ?_
  refine J_iald S_X2_cell rfl (by assumption) (by omega) rfl (by omega) (by decide) ?_
  refine J_goto S_X2_cell rfl ?_
  refine J_retI S_X2_cell rfl ?_
  exact ⟨rfl, rfl⟩
theorem C_X2_newValue (hB : mj_isB b) {j : Nat} (hj : j < 200) : mj_R D_X2_newValue [.inr (some (b + 1)), .inl (nI j)] (mj_w I) (mj_ex (some (.inl (I (b + 3) j))) I) := by
  obtain ⟨h0, h1, h2, h3, h4, h5, h6, hv, hb⟩ := hB
  refine mj_enter (by decide +kernel) (Nat.le_of_ble_eq_true rfl) ?_
  refine J_ild S_X2_newValue rfl rfl ?_
  refine J_if S_X2_newValue rfl (fun c1 => False.elim (nI_pos (by omega) c1)) (fun c1 => ?_)
  refine J_ild S_X2_newValue rfl rfl ?_
  refine J_ald S_X2_newValue rfl rfl ?_
  refine J_getR S_X2_newValue rfl (by assumption) (by omega) rfl ?_
  refine J_len S_X2_newValue rfl (by assumption) (by omega) (by decide) ?_
  refine J_cmp S_X2_newValue rfl (fun c10 => False.elim (nI_ge hj (by omega) c10)) (fun c10 => ?_)
  refine J_ald S_X2_newValue rfl rfl ?_
  refine J_getR S_X2_newValue rfl (by assumption) (by omega) rfl ?_
  refine J_ild S_X2_newValue rfl rfl ?_
  refine J_iald S_X2_newValue rfl (by assumption) (by omega) rfl (by omega) (by decide) ?_
  refine J_goto S_X2_newValue rfl ?_
  refine J_retI S_X2_newValue rfl ?_
  exact ⟨rfl, rfl⟩
theorem C_X2_add (hB : mj_isB b) {n : Nat} (hn : n < 200) (he : I (b + 1) 2 = nI n) {x y : Int32} : mj_R D_X2_add [.inr (some (b + 1)), .inl x, .inl y] (mj_w I) (mj_ex (some (.inl (nI n))) (mj_up (mj_up (mj_up I (b + 2) n x) (b + 3) n y) (b + 1) 2 (nI (n + 1)))) := by
  obtain ⟨h0, h1, h2, h3, h4, h5, h6, hv, hb⟩ := hB
  refine mj_enter (by decide +kernel) (Nat.le_of_ble_eq_true rfl) ?_
  refine J_ald S_X2_add rfl rfl ?_
  refine J_getI S_X2_add rfl (by assumption) (by omega) ?_
  rw [he]
  refine J_ist S_X2_add rfl rfl ?_
  refine J_ild S_X2_add rfl rfl ?_
  refine J_if S_X2_add rfl (fun c6 => False.elim (nI_pos (by omega) c6)) (fun c6 => ?_)
  refine J_ild S_X2_add rfl rfl ?_
  refine J_ald S_X2_add rfl rfl ?_
  refine J_getR S_X2_add rfl (by assumption) (by omega) rfl ?_
  refine J_len S_X2_add rfl (by assumption) (by omega) (by decide) ?_
  refine J_cmp S_X2_add rfl (fun c15 => False.elim (nI_ge hn (by omega) c15)) (fun c15 => ?_)
  refine J_ild S_X2_add rfl rfl ?_
  refine J_ald S_X2_add rfl rfl ?_
  refine J_getR S_X2_add rfl (by assumption) (by omega) rfl ?_
  refine J_len S_X2_add rfl (by assumption) (by omega) (by decide) ?_
  refine J_cmp S_X2_add rfl (fun c24 => False.elim (nI_ge hn (by omega) c24)) (fun c24 => ?_)
  refine J_ald S_X2_add rfl rfl ?_
  refine J_getR S_X2_add rfl (by assumption) (by omega) rfl ?_
  refine J_ild S_X2_add rfl rfl ?_
  refine J_ild S_X2_add rfl rfl ?_
  refine J_iast S_X2_add rfl (by assumption) (by omega) rfl (by omega) (by decide) ?_
  refine J_ald S_X2_add rfl rfl ?_
  refine J_getR S_X2_add rfl (by assumption) (by omega) rfl ?_
  refine J_ild S_X2_add rfl rfl ?_
  refine J_ild S_X2_add rfl rfl ?_
  refine J_iast S_X2_add rfl (by assumption) (by omega) rfl (by omega) (by decide) ?_
  refine J_ald S_X2_add rfl rfl ?_
  refine J_ild S_X2_add rfl rfl ?_
  refine J_C S_X2_add rfl ?_
  refine J_bin S_X2_add rfl ?_
  refine J_putI S_X2_add rfl (by assumption) (by omega) ?_
  refine J_ild S_X2_add rfl rfl ?_
  refine J_retI S_X2_add rfl ?_
  rw [nI_succ]; exact ⟨rfl, rfl⟩
/-- the value that was set last at a cell, of the first n changes -/
def lg_at (I : mj_I) (b : Nat) (c : Int32) : Nat → Int32
  | 0 => -1
  | n + 1 => if I (b + 2) n = c then I (b + 3) n else lg_at I b c n
theorem C_X2_copyFrom {b' : Nat} (hB : mj_isB b) (hB' : mj_isB b') {n : Nat} (hn : n ≤ 200) (he : I (b' + 1) 2 = nI n) : mj_R D_X2_copyFrom [.inr (some (b + 1)), .inr (some (b' + 1))] (mj_w I) (mj_ex none (mj_up (mj_cp (mj_cp I (b + 2) (va_cpy (I (b' + 2)) (I (b + 2)) 0 0 n)) (b + 3) (va_cpy (mj_cp I (b + 2) (va_cpy (I (b' + 2)) (I (b + 2)) 0 0 n) (b' + 3)) (mj_cp I (b + 2) (va_cpy (I (b' + 2)) (I (b + 2)) 0 0 n) (b + 3)) 0 0 n)) (b + 1) 2 (nI n))) := by
  obtain ⟨h0, h1, h2, h3, h4, h5, h6, hv, hb⟩ := hB
  obtain ⟨g0, g1, g2, g3, g4, g5, g6, gv, gb⟩ := hB'
  refine mj_enter (by decide +kernel) (Nat.le_of_ble_eq_true rfl) ?_
  refine J_ald S_X2_copyFrom rfl rfl ?_
  refine J_getI S_X2_copyFrom rfl (by assumption) (by omega) ?_
  rw [he]
  refine J_ist S_X2_copyFrom rfl rfl ?_
  refine J_ild S_X2_copyFrom rfl rfl ?_
  refine J_if S_X2_copyFrom rfl (fun c6 => False.elim (nI_pos (by omega) c6)) (fun c6 => ?_)
  refine J_ild S_X2_copyFrom rfl rfl ?_
  refine J_ald S_X2_copyFrom rfl rfl ?_
  refine J_getR S_X2_copyFrom rfl (by assumption) (by omega) rfl ?_
  refine J_len S_X2_copyFrom rfl (by assumption) (by omega) (by decide) ?_
  refine J_cmp S_X2_copyFrom rfl (fun c15 => False.elim (nI_nlt (by omega) (by omega) c15)) (fun c15 => ?_)
  refine J_ild S_X2_copyFrom rfl rfl ?_
  refine J_ald S_X2_copyFrom rfl rfl ?_
  refine J_getR S_X2_copyFrom rfl (by assumption) (by omega) rfl ?_
  refine J_len S_X2_copyFrom rfl (by assumption) (by omega) (by decide) ?_
  refine J_cmp S_X2_copyFrom rfl (fun c24 => False.elim (nI_nlt (by omega) (by omega) c24)) (fun c24 => ?_)
  refine J_ild S_X2_copyFrom rfl rfl ?_
  refine J_ald S_X2_copyFrom rfl rfl ?_
  refine J_getR S_X2_copyFrom rfl (by assumption) (by omega) rfl ?_
  refine J_len S_X2_copyFrom rfl (by assumption) (by omega) (by decide) ?_
  refine J_cmp S_X2_copyFrom rfl (fun c33 => False.elim (nI_nlt (by omega) (by omega) c33)) (fun c33 => ?_)
  refine J_ild S_X2_copyFrom rfl rfl ?_
  refine J_ald S_X2_copyFrom rfl rfl ?_
  refine J_getR S_X2_copyFrom rfl (by assumption) (by omega) rfl ?_
  refine J_len S_X2_copyFrom rfl (by assumption) (by omega) (by decide) ?_
  refine J_cmp S_X2_copyFrom rfl (fun c42 => False.elim (nI_nlt (by omega) (by omega) c42)) (fun c42 => ?_)
  refine J_ald S_X2_copyFrom rfl rfl ?_
  refine J_getR S_X2_copyFrom rfl (by assumption) (by omega) rfl ?_
  refine J_C S_X2_copyFrom rfl ?_
  refine J_ald S_X2_copyFrom rfl rfl ?_
  refine J_getR S_X2_copyFrom rfl (by assumption) (by omega) rfl ?_
  refine J_C S_X2_copyFrom rfl ?_
  refine J_ild S_X2_copyFrom rfl rfl ?_
  refine J_cpy S_X2_copyFrom rfl (by assumption) (by assumption) (by omega) (by omega) rfl (by omega) (by omega) (by omega) (by decide) ?_
  refine J_ald S_X2_copyFrom rfl rfl ?_
  refine J_getR S_X2_copyFrom rfl (by assumption) (by omega) rfl ?_
  refine J_C S_X2_copyFrom rfl ?_
  refine J_ald S_X2_copyFrom rfl rfl ?_
  refine J_getR S_X2_copyFrom rfl (by assumption) (by omega) rfl ?_
  refine J_C S_X2_copyFrom rfl ?_
  refine J_ild S_X2_copyFrom rfl rfl ?_
  refine J_cpy S_X2_copyFrom rfl (by assumption) (by assumption) (by omega) (by omega) rfl (by omega) (by omega) (by omega) (by decide) ?_
  refine J_ald S_X2_copyFrom rfl rfl ?_
  refine J_ild S_X2_copyFrom rfl rfl ?_
  refine J_putI S_X2_copyFrom rfl (by assumption) (by omega) ?_
  refine J_retV S_X2_copyFrom rfl ?_
  exact ⟨rfl, rfl⟩
end Lg
