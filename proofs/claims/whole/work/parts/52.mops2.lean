section M2
variable {I : mj_I}
theorem in_t {x lo hi : Int32} (h : lo ≤ x ∧ x ≤ hi) : mj_R D_X10_in [.inl x, .inl lo, .inl hi] (mj_w I) (mj_ex (some (.inl 1)) I) := by
  have g := C_X10_in (I := I) (x := x) (lo := lo) (hi := hi)
  rw [decide_eq_true h.1, decide_eq_true h.2] at g
  exact g
theorem in_f {x lo hi : Int32} (h : ¬ (lo ≤ x ∧ x ≤ hi)) : mj_R D_X10_in [.inl x, .inl lo, .inl hi] (mj_w I) (mj_ex (some (.inl 0)) I) := by
  have g := C_X10_in (I := I) (x := x) (lo := lo) (hi := hi)
  rw [show (decide (lo ≤ x) && decide (x ≤ hi)) = false by
    by_cases a : lo ≤ x
    · rw [decide_eq_false (fun c => h ⟨a, c⟩), Bool.and_false]
    · rw [decide_eq_false a, Bool.false_and]] at g
  exact g
theorem C_X10_grant (hI : IV (I 314)) {n c : Nat} (h2 : I 313 2 = nI n) (hn : n ≤ 5) (hc1 : 1 ≤ c) (hc2 : c ≤ 999) (hc : tn (I 314 2) + c ≤ 9999) : mj_R D_X10_grant [.inr (some 313), .inl (nI c)] (mj_w I) (mj_px (fun r I' => r = some (.inl (I 314 2 + nI c)) ∧ MN n I I' (upd (upd (I 314) 2 (I 314 2 + nI c)) 3 (I 314 3 + nI c)))) := by
  have m0 := s_313
  have m1 := s_314
  have hno := C_X10_notes h2 hn
  have e2 : I 314 2 = nI (tn (I 314 2)) := hI.2.2.1.1
  have hin := in_t (I := I) (x := nI c) (lo := 1) (hi := 999) ⟨nI_le (a := 1) hc1 (by omega), nI_le (b := 999) hc2 (by decide)⟩
  have hle : I 314 2 + nI c ≤ 9999 := by rw [e2, nI_add]; exact nI_le (b := 9999) hc (by decide)
  refine mj_enter (by decide +kernel) (Nat.le_of_ble_eq_true rfl) ?_
  refine J_ild S_X10_grant rfl rfl ?_
  refine J_C S_X10_grant rfl ?_
  refine J_C S_X10_grant rfl ?_
  refine J_CSx S_X10_grant rfl rfl (by simp) (hin) rfl ?_
  refine J_if S_X10_grant rfl (fun c8 => ?_) (fun c8 => False.elim (absurd c8 (by decide)))
  refine J_ald S_X10_grant rfl rfl ?_
  refine J_getR S_X10_grant rfl (o' := 314) (by assumption) (by omega) rfl ?_
  refine J_C S_X10_grant rfl ?_
  refine J_iald S_X10_grant rfl (by assumption) (by omega) (j := 2) rfl (by omega) (by decide) ?_
  refine J_ild S_X10_grant rfl rfl ?_
  refine J_bin S_X10_grant rfl ?_
  refine J_C S_X10_grant rfl ?_
  refine J_cmp S_X10_grant rfl (fun c25 => ?_) (fun c25 => False.elim (c25 hle))
  refine J_ald S_X10_grant rfl rfl ?_
  refine J_CV S_X10_grant rfl rfl (by assumption) (by omega) (by simp) (hno) ?_
  rintro _ _ ⟨I1, rfl, rfl, f1, f2, f3⟩
  refine J_ald S_X10_grant rfl rfl ?_
  refine J_getR S_X10_grant rfl (o' := 314) (by assumption) (by omega) rfl ?_
  refine J_C S_X10_grant rfl ?_
  refine J_dup2 S_X10_grant rfl ?_
  refine J_iald S_X10_grant rfl (by assumption) (by omega) (j := 2) rfl (by omega) (by decide) ?_
  refine J_ild S_X10_grant rfl rfl ?_
  refine J_bin S_X10_grant rfl ?_
  refine J_iast S_X10_grant rfl (by assumption) (by omega) (j := 2) rfl (by omega) (by decide) ?_
  refine J_ald S_X10_grant rfl rfl ?_
  refine J_getR S_X10_grant rfl (o' := 314) (by assumption) (by omega) rfl ?_
  refine J_C S_X10_grant rfl ?_
  refine J_dup2 S_X10_grant rfl ?_
  refine J_iald S_X10_grant rfl (by assumption) (by omega) (j := 3) rfl (by omega) (by decide) ?_
  refine J_ild S_X10_grant rfl rfl ?_
  refine J_bin S_X10_grant rfl ?_
  refine J_iast S_X10_grant rfl (by assumption) (by omega) (j := 3) rfl (by omega) (by decide) ?_
  refine J_ald S_X10_grant rfl rfl ?_
  refine J_getR S_X10_grant rfl (o' := 314) (by assumption) (by omega) rfl ?_
  refine J_C S_X10_grant rfl ?_
  refine J_iald S_X10_grant rfl (by assumption) (by omega) (j := 2) rfl (by omega) (by decide) ?_
  refine J_retI S_X10_grant rfl ?_
  have e := f1 314 (by decide) (by decide)
  refine ⟨_, rfl, ?_, ?_⟩
  · simp only [mj_up_eq, up_s, up_n (show (2 : Nat) ≠ 3 by decide), e]
  · simp only [mj_up_eq, up_n (show (3 : Nat) ≠ 2 by decide), e]; exact mn_up (mn_up (mn_no f1 f2 f3))
theorem C_X10_pay (hI : IV (I 314)) {n k c : Nat} (h2 : I 313 2 = nI n) (hn : n ≤ 5) (hk : k < 8) (he : vk (I 314) k 4 = 1) (hz : vk (I 314) k 5 = 0) (hc1 : 1 ≤ c) (hc2 : c ≤ 999) (ht : ¬ I 314 2 = 0) : mj_R D_X10_pay [.inr (some 313), .inl (nI k), .inl (nI c)] (mj_w I) (mj_px (fun r I' => r = some (.inl (nI (pyD (I 314) k (min c (tn (I 314 2))) + pyA (I 314) k (min c (tn (I 314 2)))))) ∧ MN n I I' (payV (I 314) k (min c (tn (I 314 2)))))) := by
  have m0 := s_313
  have m1 := s_314
  have hno := C_X10_notes h2 hn
  have hiv := C_X10_isView (I := I) hI (x := nI k)
  rw [isV_nI hk, ex_t he] at hiv
  have hib := C_X10_isBankrupt (I := I) hk
  rw [hz] at hib
  have hin := in_t (I := I) (x := nI c) (lo := 1) (hi := 999) ⟨nI_le (a := 1) hc1 (by omega), nI_le (b := 999) hc2 (by decide)⟩
  have hpy := fun (I1 : mj_I) (e : I1 314 = I 314) => C_X10_pays (I := I1) (k := k) (c := c) (by rw [e]; exact hI) hk (by rw [e]; exact he) (by omega)
  refine mj_enter (by decide +kernel) (Nat.le_of_ble_eq_true rfl) ?_
  refine J_ald S_X10_pay rfl rfl ?_
  refine J_ild S_X10_pay rfl rfl ?_
  refine J_CVx S_X10_pay rfl rfl (by assumption) (by omega) (by simp) (hiv) rfl ?_
  refine J_if S_X10_pay rfl (fun c5 => False.elim (absurd c5 (by decide))) (fun c5 => ?_)
  refine J_ild S_X10_pay rfl rfl ?_
  refine J_C S_X10_pay rfl ?_
  refine J_C S_X10_pay rfl ?_
  refine J_CSx S_X10_pay rfl rfl (by simp) (hin) rfl ?_
  refine J_if S_X10_pay rfl (fun c16 => ?_) (fun c16 => False.elim (absurd c16 (by decide)))
  refine J_ald S_X10_pay rfl rfl ?_
  refine J_ild S_X10_pay rfl rfl ?_
  refine J_CVx S_X10_pay rfl rfl (by assumption) (by omega) (by simp) (hib) rfl ?_
  refine J_if S_X10_pay rfl (fun c27 => False.elim (c27 rfl)) (fun c27 => ?_)
  refine J_ald S_X10_pay rfl rfl ?_
  refine J_getR S_X10_pay rfl (o' := 314) (by assumption) (by omega) rfl ?_
  refine J_C S_X10_pay rfl ?_
  refine J_iald S_X10_pay rfl (by assumption) (by omega) (j := 2) rfl (by omega) (by decide) ?_
  refine J_if S_X10_pay rfl (fun c36 => ?_) (fun c36 => False.elim (ht c36))
  refine J_ald S_X10_pay rfl rfl ?_
  refine J_CV S_X10_pay rfl rfl (by assumption) (by omega) (by simp) (hno) ?_
  rintro _ _ ⟨I1, rfl, rfl, f1, f2, f3⟩
  refine J_ald S_X10_pay rfl rfl ?_
  refine J_ild S_X10_pay rfl rfl ?_
  refine J_ild S_X10_pay rfl rfl ?_
  refine J_CV S_X10_pay rfl rfl (by assumption) (by omega) (by simp) (hpy I1 (f1 314 (by decide) (by decide))) ?_
  rintro _ _ ⟨I2, rfl, rfl, g1, g2, g3⟩
  refine J_retI S_X10_pay rfl ?_
  have e := f1 314 (by decide) (by decide)
  rw [e] at g1 ⊢
  obtain ⟨d, m, q1, q2⟩ := f3
  exact ⟨I2, rfl, rfl, fun q a b c _ _ _ _ => by rw [g2 q a b]; exact f1 q a c, g1, ⟨d, m, by rw [g2 315 (by decide) (by decide)]; exact q1, by rw [g3 2 (by decide) (by decide)]; exact q2⟩, by rw [g3 4 (by decide) (by decide)]; exact f2 4 (by decide)⟩
end M2
