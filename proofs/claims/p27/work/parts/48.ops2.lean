section O2
variable {I : mj_I} {b : Nat} {v : mv}
/-! found -/
def fcost (v : mv) (k : Nat) : Int32 := 3 * v 10 * nI (ks v k)
def foundV (v : mv) (k : Nat) (c : Int32) : mv := upd (upd (upd (upd (upd v 2 (v 2 - c)) 6 (v 6 + c)) (615 + 9 * k + 8) (vk v k 8 + c)) (615 + 9 * k + 5) 0) (615 + 9 * k + 6) (v 0)
theorem found_o {k i : Nat} {c : Int32} (h2 : i ≠ 2) (h6 : i ≠ 6) (g5 : i ≠ 615 + 9 * k + 5) (g6 : i ≠ 615 + 9 * k + 6) (g8 : i ≠ 615 + 9 * k + 8) : foundV v k c i = v i := by
  unfold foundV
  rw [up_n g6, up_n g5, up_n g8, up_n h6, up_n h2]
theorem found_e {k : Nat} {c : Int32} : foundV v k c 2 = v 2 - c ∧ foundV v k c 6 = v 6 + c ∧ vk (foundV v k c) k 5 = 0 ∧ vk (foundV v k c) k 6 = v 0 ∧ vk (foundV v k c) k 8 = vk v k 8 + c := by
  unfold foundV
  refine ⟨?_, ?_, ?_, ?_, ?_⟩
  · rw [up_n (by omega), up_n (by omega), up_n (by omega), up_n (by omega), up_s]
  · rw [up_n (by omega), up_n (by omega), up_n (by omega), up_s]
  · rw [vk_up (by omega), vk_us]
  · rw [vk_us]
  · rw [vk_up (by omega), vk_up (by omega), vk_us]
theorem sq_found {k : Nat} {c : Int32} : SQ v (foundV v k c) := ⟨fun i h1 h2 => found_o (by omega) (by omega) (by omega) (by omega) (by omega), fun q f hf => found_o (by omega) (by omega) (by omega) (by omega) (by omega)⟩
theorem found_I (hI : IV v) {k : Nat} {c : Int32} (hk : k < 8) (hc : rg (v 2 - c) 9999) (he : vk v k 4 = 1) : IV (foundV v k c) := by
  obtain ⟨e2, e6, e5k, e6k, e8k⟩ := found_e (v := v) (k := k) (c := c)
  have h0 := hI.1
  refine IV_to hI sq_found (found_o (by omega) (by omega) (by omega) (by omega) (by omega)) (found_o (by omega) (by omega) (by omega) (by omega) (by omega)) (by rw [e2]; exact hc) (fun i hi => found_o (by omega) (by omega) (by omega) (by omega) (by omega)) (fun q => found_o (by omega) (by omega) (by omega) (by omega) (by omega)) (fun q hq => ?_)
  obtain ⟨-, -, -, -, -, -, -, -, -, x5, x6, x7, x8⟩ := hI.2.2.2.2.2.1 q hq
  have e7 : vk (foundV v k c) q 7 = vk v q 7 := found_o (by omega) (by omega) (by omega) (by omega) (by omega)
  rw [e7]
  by_cases e : q = k
  · subst e
    rw [e5k, e6k]
    exact ⟨rg_nI (n := 0) (by decide) (by decide), ⟨h0.1, Nat.le_refl _⟩, x7, x8⟩
  · rw [show vk (foundV v k c) q 5 = vk v q 5 from found_o (by omega) (by omega) (by omega) (by omega) (by omega), show vk (foundV v k c) q 6 = vk v q 6 from found_o (by omega) (by omega) (by omega) (by omega) (by omega)]
    exact ⟨x5, x6, x7, x8⟩
theorem found_Z (h : ZB v) {k : Nat} {c : Int32} : ZB (foundV v k c) := fun q hq g4 g5 => by
  by_cases e : q = k
  · subst e
    rw [found_e.2.2.1] at g5
    exact absurd g5 (by decide)
  · rw [show vk (foundV v k c) q 4 = vk v q 4 from found_o (by omega) (by omega) (by omega) (by omega) (by omega)] at g4
    rw [show vk (foundV v k c) q 5 = vk v q 5 from found_o (by omega) (by omega) (by omega) (by omega) (by omega)] at g5
    rw [show vk (foundV v k c) q 7 = vk v q 7 from found_o (by omega) (by omega) (by omega) (by omega) (by omega)]
    exact h q hq g4 g5
theorem C_X0_foundAnew (hB : mj_isB b) (hR : RB I b v) (hI : IV v) (hZ : ZB v) {k : Nat} {c : Int32} (hk : k < 8) (he : vk v k 4 = 1) (hz : vk v k 5 = 1) : mj_R D_X0_foundAnew [.inr (some b), .inr (some (b + 7 + k)), .inl c] (mj_w I) (mj_px (fun r I' => r = none ∧ RB I' b (foundV v k c) ∧ Fr b I I')) := by
  have hB' := hB
  obtain ⟨h0, h1, h2, h3, h4, h5, h6, hv, hb⟩ := hB
  have hvk := hv k hk
  obtain ⟨r1, r2, r3, r4, r5, r6, r7, r8, r9, r10⟩ := (hR.2.2.2.2 k hk).2.2 he
  have hl0 := hI.1.2
  have hkd := hI.ex hk he
  have e6 : I b 9 = v 6 := hR.2.1 5 (by decide)
  have e2 : I b 5 = v 2 := hR.2.1 1 (by decide)
  have e0 : I (b + 1) 2 = v 0 := hR.1
  have h7 : vk v k 7 = 0 := hZ k hk he hz
  have R1 := RB_ac (i := 5) (x := v 6 + c) hl0 hR (by decide)
  have R2 := RB_ac (i := 1) (x := v 2 - c) (by rw [up_n (by omega)]; exact hl0) R1 (by decide)
  have R3 := RB_vw (f := 8) (x := vk v k 8 + c) (by rw [up_n (by omega), up_n (by omega)]; exact hl0) R2 hk (by decide) (fun h => absurd h (by decide))
  have R4 := RB_vw (f := 5) (x := 0) (by rw [up_n (by omega), up_n (by omega), up_n (by omega)]; exact hl0) R3 hk (by decide) (fun _ => Or.inl rfl)
  have R5 := RB_vw (f := 6) (x := v 0) (by rw [up_n (by omega), up_n (by omega), up_n (by omega), up_n (by omega)]; exact hl0) R4 hk (by decide) (fun h => absurd h (by decide))
  have R6 := RB_vw (f := 7) (x := 0) (by rw [up_n (by omega), up_n (by omega), up_n (by omega), up_n (by omega), up_n (by omega)]; exact hl0) R5 hk (by decide) (fun h => absurd h (by decide))
  have hc1 := fun (J : mj_I) => C_X0_spend (I := J) (x := c) hB' hk
  have hc2 := fun (J : mj_I) => C_X8_standAnew (I := J) (a := v 0) hvk (by omega)
  have efin : upd (upd (upd (upd (upd (upd v (1 + 5) (v 6 + c)) (1 + 1) (v 2 - c)) (615 + 9 * k + 8) (vk v k 8 + c)) (615 + 9 * k + 5) 0) (615 + 9 * k + 6) (v 0)) (615 + 9 * k + 7) 0 = foundV v k c := by
    funext j
    unfold foundV
    simp only [upd]
    by_cases j1 : j = 615 + 9 * k + 7
    · subst j1
      rw [if_pos rfl, if_neg (by omega), if_neg (by omega), if_neg (by omega), if_neg (by omega), if_neg (by omega)]
      exact h7.symm
    · rw [if_neg j1]
      by_cases j2 : j = 2
      · subst j2
        rw [if_neg (by omega), if_neg (by omega), if_neg (by omega), if_pos rfl, if_neg (by omega), if_neg (by omega), if_neg (by omega), if_neg (by omega), if_pos rfl]
      · rw [if_neg (show ¬ j = 1 + 1 from j2), if_neg j2]
  rw [efin] at R6
  refine mj_enter (by decide +kernel) (Nat.le_of_ble_eq_true rfl) ?_
  refine J_ald S_X0_foundAnew rfl rfl ?_
  refine J_dup S_X0_foundAnew rfl ?_
  refine J_getI S_X0_foundAnew rfl (by assumption) (by omega) ?_
  refine J_ild S_X0_foundAnew rfl rfl ?_
  rw [e6]
  refine J_bin S_X0_foundAnew rfl ?_
  refine J_putI S_X0_foundAnew rfl (by assumption) (by omega) ?_
  refine J_ald S_X0_foundAnew rfl rfl ?_
  refine J_ald S_X0_foundAnew rfl rfl ?_
  refine J_ild S_X0_foundAnew rfl rfl ?_
  refine J_CVx S_X0_foundAnew rfl rfl (by assumption) (by omega) (by simp) (hc1 _) rfl ?_
  refine J_ald S_X0_foundAnew rfl rfl ?_
  refine J_ald S_X0_foundAnew rfl rfl ?_
  refine J_getR S_X0_foundAnew rfl (by assumption) (by omega) rfl ?_
  refine J_getI S_X0_foundAnew rfl (by assumption) (by omega) ?_
  simp only [mj_up_ne (show b + 1 ≠ b by omega), mj_up_ne (show b + 1 ≠ b + 7 + k by omega)]; rw [e0]
  refine J_CVx S_X0_foundAnew rfl rfl (by assumption) (by omega) (by simp) (hc2 _) rfl ?_
  refine J_retV S_X0_foundAnew rfl ?_
  refine ⟨_, rfl, rfl, ?_, ?_⟩
  · simp only [mj_up_eq, mj_up_ne (show b ≠ b + 7 + k by omega), mj_up_ne (show b + 7 + k ≠ b by omega), up_n (show (5 : Nat) ≠ 9 by decide), e2, r10]; exact R6
  · exact fr_up (fr_up (fr_up (fr_up (fr_up (fr_up fr_rf (by omega) (by omega)) (by omega) (by omega)) (by omega) (by omega)) (by omega) (by omega)) (by omega) (by omega)) (by omega) (by omega)
end O2
