section M7
variable {I : mj_I}
theorem C_X10_drop (hI : IV (I 314)) {n k : Nat} (h2 : I 313 2 = nI n) (hn : n ≤ 5) (hk : k < 8) (he : vk (I 314) k 4 = 1) (hp : ∀ q, q < 8 → made (I 314) (nI k) q = false) : mj_R D_X10_drop [.inr (some 313), .inl (nI k)] (mj_w I) (mj_px (fun r I' => r = some (.inl (nI (nV (dropV (I 314) k) (tn (I 314 1))))) ∧ MN n I I' (dropV (I 314) k))) := by
  have m0 := s_313
  have m1 := s_314
  have hno := C_X10_notes h2 hn
  have hiv := C_X10_isView (I := I) hI (x := nI k)
  rw [isV_nI hk, ex_t he] at hiv
  obtain ⟨df, hdf, hdl⟩ : ∃ d, I 314 1 = nI d ∧ d ≤ 8 := ⟨_, hI.2.1.1, hI.2.1.2⟩
  have hdt : tn (I 314 1) = df := by rw [hdf, tn_nI (by omega)]
  rw [hdt]
  have hv := fun (J : mj_I) f => C_X10_v (I := J) (k := k) (f := f)
  have hvw := fun (J : mj_I) (e : J 314 = dropV (I 314) k) => (show mj_R D_X10_views [.inr (some 313)] (mj_w J) (mj_ex (some (.inl (nI (nV (dropV (I 314) k) df)))) J) from by
    have h := C_X10_views (I := J) (by rw [e]; exact drop_I hI hk hp)
    rw [e, show tn (dropV (I 314) k 1) = df by rw [drop_o (by omega) (by omega)]; exact hdt] at h
    exact h)
  refine mj_enter (by decide +kernel) (Nat.le_of_ble_eq_true rfl) ?_
  have key : ∀ (s q : Nat), q + s = df → mj_J D_X10_drop (mj_px (fun r I' => r = some (.inl (nI (nV (dropV (I 314) k) df))) ∧ MN n I I' (dropV (I 314) k))) 13 [some (.inr (some 313)), some (.inl (nI k)), some (.inl (nI q))] [] (mj_w I) (0, 0) := by
    intro s
    induction s with
    | zero =>
      intro q hq
      obtain rfl : q = df := by omega
      refine J_ild S_X10_drop rfl rfl ?_
      refine J_ald S_X10_drop rfl rfl ?_
      refine J_getR S_X10_drop rfl (o' := 314) (by assumption) (by omega) rfl ?_
      refine J_C S_X10_drop rfl ?_
      refine J_iald S_X10_drop rfl (by assumption) (by omega) (j := 1) rfl (by omega) (by decide) ?_
      rw [hdf]
      refine J_cmp S_X10_drop rfl (fun c20 => ?_) (fun c20 => False.elim (c20 (Int32.le_refl _)))
      refine J_ald S_X10_drop rfl rfl ?_
      refine J_CV S_X10_drop rfl rfl (by assumption) (by omega) (by simp) (hno) ?_
      rintro _ _ ⟨I1, rfl, rfl, f1, f2, f3⟩
      refine J_ald S_X10_drop rfl rfl ?_
      refine J_getR S_X10_drop rfl (o' := 314) (by assumption) (by omega) rfl ?_
      refine J_ild S_X10_drop rfl rfl ?_
      refine J_C S_X10_drop rfl ?_
      refine J_CSx S_X10_drop rfl rfl (by simp) (hv _ 4) rfl ?_
      refine J_C S_X10_drop rfl ?_
      refine J_iast S_X10_drop rfl (by assumption) (by omega) (j := 615 + 9 * k + 4) rfl (by omega) (by decide) ?_
      refine J_ald S_X10_drop rfl rfl ?_
      refine J_getR S_X10_drop rfl (o' := 314) (by assumption) (by omega) rfl ?_
      refine J_ild S_X10_drop rfl rfl ?_
      refine J_C S_X10_drop rfl ?_
      refine J_CSx S_X10_drop rfl rfl (by simp) (hv _ 7) rfl ?_
      refine J_C S_X10_drop rfl ?_
      refine J_iast S_X10_drop rfl (by assumption) (by omega) (j := 615 + 9 * k + 7) rfl (by omega) (by decide) ?_
      refine J_ald S_X10_drop rfl rfl ?_
      refine J_CVx S_X10_drop rfl rfl (by assumption) (by omega) (by simp) (hvw _ (by rw [mj_up_eq, mj_up_eq, f1 314 (by decide) (by decide)]; rfl)) rfl ?_
      refine J_retI S_X10_drop rfl ?_
      exact ⟨_, rfl, rfl, mn_up (mn_up (mn_no f1 f2 f3))⟩
    | succ s ih =>
      intro q hq
      have hm := C_X10_isMadeOf (I := I) hI (k := q) (x := nI k) (by omega)
      rw [hp q (by omega)] at hm
      refine J_ild S_X10_drop rfl rfl ?_
      refine J_ald S_X10_drop rfl rfl ?_
      refine J_getR S_X10_drop rfl (o' := 314) (by assumption) (by omega) rfl ?_
      refine J_C S_X10_drop rfl ?_
      refine J_iald S_X10_drop rfl (by assumption) (by omega) (j := 1) rfl (by omega) (by decide) ?_
      rw [hdf]
      refine J_cmp S_X10_drop rfl (fun c20 => False.elim (nI_ge (show q < df by omega) (by omega) c20)) (fun c20 => ?_)
      refine J_ald S_X10_drop rfl rfl ?_
      refine J_ild S_X10_drop rfl rfl ?_
      refine J_ild S_X10_drop rfl rfl ?_
      refine J_CVx S_X10_drop rfl rfl (by assumption) (by omega) (by simp) (hm) rfl ?_
      refine J_if S_X10_drop rfl (fun c29 => ?_) (fun c29 => False.elim (c29 rfl))
      refine J_inc S_X10_drop rfl rfl rfl ?_
      refine J_goto S_X10_drop rfl ?_
      rw [← nI_succ]
      exact ih (q + 1) (by omega)
  refine J_ald S_X10_drop rfl rfl ?_
  refine J_ild S_X10_drop rfl rfl ?_
  refine J_CVx S_X10_drop rfl rfl (by assumption) (by omega) (by simp) (hiv) rfl ?_
  refine J_if S_X10_drop rfl (fun c5 => ?_) (fun c5 => False.elim (absurd c5 (by decide)))
  refine J_C S_X10_drop rfl ?_
  refine J_ist S_X10_drop rfl rfl ?_
  exact key df 0 (by omega)
end M7
