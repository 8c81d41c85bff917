theorem mj_S4 : mj_isS 4 := by unfold mj_isS mj_isB; decide +kernel
theorem mj_Sh : ∀ a, a < 5 → mj_isS (54 + 48 * a) := by unfold mj_isS mj_isB; decide +kernel
theorem s_52 : mj_sh 52 = (1, 3) := by decide +kernel
theorem s_53 : mj_sh 53 = (15, 5) := by decide +kernel
theorem s_0 : mj_sh 0 = (9, 5) := by decide +kernel
/-- the history's rows hold the past: n states, the oldest in row o -/
def RH (I : mj_I) (o n : Nat) (p : mv) : Prop := I 52 1 = nI o ∧ I 52 2 = nI n ∧ o < 5 ∧ n ≤ 5 ∧ ∀ a, a < n → RS I (53 + 1 + 48 * ((o + a) % 5)) (fun j => p (2063 * a + j))
section Hi
variable {I : mj_I} {w p : mv}
theorem C_X1_row {o a : Nat} (ho : I 52 1 = nI o) (h5 : o < 5) (ha : a < 5) : mj_R D_X1_row [.inr (some 52), .inl (nI a)] (mj_w I) (mj_ex (some (.inr (some (53 + 1 + 48 * ((o + a) % 5))))) I) := by
  have m0 := s_52
  have m1 := s_53
  have hm : (o + a) % 5 < 5 := Nat.mod_lt _ (by decide)
  have e : nI (o + a) - nI (o + a) / 5 * 5 = nI ((o + a) % 5) := pk_rem (a := o + a) (d := 5) (by omega) (by decide) (by decide)
  refine mj_enter (by decide +kernel) (Nat.le_of_ble_eq_true rfl) ?_
  refine J_ald S_X1_row rfl rfl ?_
  refine J_getI S_X1_row rfl (by assumption) (by omega) ?_
  refine J_ild S_X1_row rfl rfl ?_
  rw [ho]
  refine J_bin S_X1_row rfl ?_
  rw [nI_add]
  refine J_C S_X1_row rfl ?_
  refine J_div S_X1_row rfl (by decide) ?_
  rw [e]
  refine J_ist S_X1_row rfl rfl ?_
  refine J_ild S_X1_row rfl rfl ?_
  refine J_if S_X1_row rfl (fun c10 => False.elim (nI_pos (by omega) c10)) (fun c10 => ?_)
  refine J_ild S_X1_row rfl rfl ?_
  refine J_if S_X1_row rfl (fun c14 => False.elim (nI_pos (by omega) c14)) (fun c14 => ?_)
  refine J_ild S_X1_row rfl rfl ?_
  refine J_ald S_X1_row rfl rfl ?_
  refine J_getR S_X1_row rfl (by assumption) (by omega) rfl ?_
  refine J_len S_X1_row rfl (by assumption) (by omega) (by decide) ?_
  refine J_cmp S_X1_row rfl (fun c23 => False.elim (nI_ge (b := 5) hm (by decide) c23)) (fun c23 => ?_)
  refine J_ald S_X1_row rfl rfl ?_
  refine J_getR S_X1_row rfl (by assumption) (by omega) rfl ?_
  refine J_ild S_X1_row rfl rfl ?_
  refine J_aald S_X1_row rfl (by assumption) (by omega) rfl (by omega) (by decide) rfl ?_
  refine J_goto S_X1_row rfl ?_
  refine J_retA S_X1_row rfl ?_
  exact ⟨rfl, rfl⟩
theorem C_X1_record {o n : Nat} (hR : RS I 4 w) (hH : RH I o n p) : mj_R D_X1_record [.inr (some 52), .inr (some 4)] (mj_w I) (mj_px (fun r I' => r = none ∧ (∀ q, (q < 52 ∨ 294 ≤ q) → I' q = I q) ∧ RH I' (if n = 5 then (o + 1) % 5 else o) (if n = 5 then 5 else n + 1) (fun j => if n = 5 then (if j < 8252 then p (j + 2063) else w (j - 8252)) else (if j < 2063 * n then p j else w (j - 2063 * n))))) := by
  sorry
end Hi
