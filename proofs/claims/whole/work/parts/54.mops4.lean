section M4
variable {I : mj_I}
theorem C_X10_slotAt {q : Nat} : mj_R D_X10_slotAt [.inl (nI q)] (mj_w I) (mj_ex (some (.inl (nI (687 + 688 * q)))) I) := by
  refine mj_enter (by decide +kernel) (Nat.le_of_ble_eq_true rfl) ?_
  have e2 : (687 : Int32) + 688 * nI q = nI (687 + 688 * q) := by rw [show (688 : Int32) = nI 688 from rfl, pk_mul, show (687 : Int32) = nI 687 from rfl, nI_add]
  refine J_C S_X10_slotAt rfl ?_
  refine J_C S_X10_slotAt rfl ?_
  refine J_ild S_X10_slotAt rfl rfl ?_
  refine J_bin S_X10_slotAt rfl ?_
  refine J_bin S_X10_slotAt rfl ?_
  refine J_retI S_X10_slotAt rfl ?_
  rw [e2]; exact ⟨rfl, rfl⟩
theorem C_X10_found (hI : IV (I 314)) {n k : Nat} (h2 : I 313 2 = nI n) (hn : n ≤ 5) (hk : k < 8) (he : vk (I 314) k 4 = 1) (hz : vk (I 314) k 5 = 1) (hc : fcost (I 314) k ≤ I 314 2) : mj_R D_X10_found [.inr (some 313), .inl (nI k)] (mj_w I) (mj_px (fun r I' => r = some (.inl (fcost (I 314) k)) ∧ MN n I I' (foundV (I 314) k (fcost (I 314) k)))) := by
  have m0 := s_313
  have m1 := s_314
  have hiv := C_X10_isView (I := I) hI (x := nI k)
  rw [isV_nI hk, ex_t he] at hiv
  have hky := C_X10_keysOf hI (hI.ex hk he)
  have hib := fun (I1 : mj_I) (e : I1 314 = I 314) => (show mj_R D_X10_isBankrupt [.inr (some 313), .inl (nI k)] (mj_w I1) (mj_ex (some (.inl 1)) I1) from by
    have h := C_X10_isBankrupt (I := I1) hk
    rw [e, hz] at h
    exact h)
  have hno := fun (I1 : mj_I) (e : I1 313 2 = I 313 2) => C_X10_notes (I := I1) (n := n) (by rw [e]; exact h2) hn
  have hv := fun (J : mj_I) f => C_X10_v (I := J) (k := k) (f := f)
  have ec : (3 : Int32) * I 314 10 * nI (ks (I 314) k) = fcost (I 314) k := rfl
  generalize hcc : fcost (I 314) k = c at *
  refine mj_enter (by decide +kernel) (Nat.le_of_ble_eq_true rfl) ?_
  refine J_ald S_X10_found rfl rfl ?_
  refine J_ild S_X10_found rfl rfl ?_
  refine J_CVx S_X10_found rfl rfl (by assumption) (by omega) (by simp) (hiv) rfl ?_
  refine J_if S_X10_found rfl (fun c5 => ?_) (fun c5 => False.elim (absurd c5 (by decide)))
  refine J_C S_X10_found rfl ?_
  refine J_ald S_X10_found rfl rfl ?_
  refine J_getR S_X10_found rfl (o' := 314) (by assumption) (by omega) rfl ?_
  refine J_C S_X10_found rfl ?_
  refine J_iald S_X10_found rfl (by assumption) (by omega) (j := 10) rfl (by omega) (by decide) ?_
  refine J_bin S_X10_found rfl ?_
  refine J_ald S_X10_found rfl rfl ?_
  refine J_ild S_X10_found rfl rfl ?_
  refine J_CV S_X10_found rfl rfl (by assumption) (by omega) (by simp) (hky) ?_
  rintro _ _ ⟨I1, rfl, rfl, hM⟩
  refine J_bin S_X10_found rfl ?_
  rw [ec]
  refine J_ist S_X10_found rfl rfl ?_
  refine J_ald S_X10_found rfl rfl ?_
  refine J_ild S_X10_found rfl rfl ?_
  refine J_CVx S_X10_found rfl rfl (by assumption) (by omega) (by simp) (hib I1 (hM.1 314 (by decide) (by decide) (by decide) (by decide) (by decide))) rfl ?_
  refine J_if S_X10_found rfl (fun c32 => False.elim (absurd c32 (by decide))) (fun c32 => ?_)
  refine J_ald S_X10_found rfl rfl ?_
  refine J_getR S_X10_found rfl (o' := 314) (by assumption) (by omega) rfl ?_
  refine J_C S_X10_found rfl ?_
  refine J_iald S_X10_found rfl (by assumption) (by omega) (j := 2) rfl (by omega) (by decide) ?_
  rw [hM.1 314 (by decide) (by decide) (by decide) (by decide) (by decide)]
  refine J_ild S_X10_found rfl rfl ?_
  refine J_cmp S_X10_found rfl (fun c42 => ?_) (fun c42 => False.elim (c42 hc))
  refine J_ald S_X10_found rfl rfl ?_
  refine J_CV S_X10_found rfl rfl (by assumption) (by omega) (by simp) (hno I1 hM.2.1) ?_
  rintro _ _ ⟨I2, rfl, rfl, f1, f2, f3⟩
  refine J_ald S_X10_found rfl rfl ?_
  refine J_getR S_X10_found rfl (o' := 314) (by assumption) (by omega) rfl ?_
  refine J_C S_X10_found rfl ?_
  refine J_dup2 S_X10_found rfl ?_
  refine J_iald S_X10_found rfl (by assumption) (by omega) (j := 2) rfl (by omega) (by decide) ?_
  refine J_ild S_X10_found rfl rfl ?_
  refine J_bin S_X10_found rfl ?_
  refine J_iast S_X10_found rfl (by assumption) (by omega) (j := 2) rfl (by omega) (by decide) ?_
  refine J_ald S_X10_found rfl rfl ?_
  refine J_getR S_X10_found rfl (o' := 314) (by assumption) (by omega) rfl ?_
  refine J_C S_X10_found rfl ?_
  refine J_dup2 S_X10_found rfl ?_
  refine J_iald S_X10_found rfl (by assumption) (by omega) (j := 6) rfl (by omega) (by decide) ?_
  refine J_ild S_X10_found rfl rfl ?_
  refine J_bin S_X10_found rfl ?_
  refine J_iast S_X10_found rfl (by assumption) (by omega) (j := 6) rfl (by omega) (by decide) ?_
  refine J_ald S_X10_found rfl rfl ?_
  refine J_getR S_X10_found rfl (o' := 314) (by assumption) (by omega) rfl ?_
  refine J_ild S_X10_found rfl rfl ?_
  refine J_C S_X10_found rfl ?_
  refine J_CSx S_X10_found rfl rfl (by simp) (hv _ 8) rfl ?_
  refine J_dup2 S_X10_found rfl ?_
  refine J_iald S_X10_found rfl (by assumption) (by omega) (j := 615 + 9 * k + 8) rfl (by omega) (by decide) ?_
  refine J_ild S_X10_found rfl rfl ?_
  refine J_bin S_X10_found rfl ?_
  refine J_iast S_X10_found rfl (by assumption) (by omega) (j := 615 + 9 * k + 8) rfl (by omega) (by decide) ?_
  refine J_ald S_X10_found rfl rfl ?_
  refine J_getR S_X10_found rfl (o' := 314) (by assumption) (by omega) rfl ?_
  refine J_ild S_X10_found rfl rfl ?_
  refine J_C S_X10_found rfl ?_
  refine J_CSx S_X10_found rfl rfl (by simp) (hv _ 5) rfl ?_
  refine J_C S_X10_found rfl ?_
  refine J_iast S_X10_found rfl (by assumption) (by omega) (j := 615 + 9 * k + 5) rfl (by omega) (by decide) ?_
  refine J_ald S_X10_found rfl rfl ?_
  refine J_getR S_X10_found rfl (o' := 314) (by assumption) (by omega) rfl ?_
  refine J_ild S_X10_found rfl rfl ?_
  refine J_C S_X10_found rfl ?_
  refine J_CSx S_X10_found rfl rfl (by simp) (hv _ 6) rfl ?_
  refine J_ald S_X10_found rfl rfl ?_
  refine J_getR S_X10_found rfl (o' := 314) (by assumption) (by omega) rfl ?_
  refine J_C S_X10_found rfl ?_
  refine J_iald S_X10_found rfl (by assumption) (by omega) (j := 0) rfl (by omega) (by decide) ?_
  refine J_iast S_X10_found rfl (by assumption) (by omega) (j := 615 + 9 * k + 6) rfl (by omega) (by decide) ?_
  refine J_ild S_X10_found rfl rfl ?_
  refine J_retI S_X10_found rfl ?_
  have e1 := hM.1 314 (by decide) (by decide) (by decide) (by decide) (by decide)
  have e := (f1 314 (by decide) (by decide)).trans e1
  refine ⟨_, rfl, rfl, ?_⟩
  simp only [mj_up_eq, up_n (show (6 : Nat) ≠ 2 by decide), up_n (show 615 + 9 * k + 8 ≠ 6 by omega), up_n (show 615 + 9 * k + 8 ≠ 2 by omega), up_n (show 0 ≠ 615 + 9 * k + 5 by omega), up_n (show 0 ≠ 615 + 9 * k + 8 by omega), up_n (show (0 : Nat) ≠ 6 by decide), up_n (show (0 : Nat) ≠ 2 by decide), e]
  have M0 : MN n I I2 (I 314) := ?_
  · exact mn_up (mn_up (mn_up (mn_up (mn_up M0))))
  · obtain ⟨d, m, q1, q2⟩ := f3; exact ⟨fun q a b c d e f g => (f1 q a c).trans (hM.1 q a d e f g), e, ⟨d, m, by rw [← hM.1 315 (by decide) (by decide) (by decide) (by decide) (by decide), ← e1]; exact q1, q2⟩, (f2 4 (by decide)).trans hM.2.2⟩
end M4
