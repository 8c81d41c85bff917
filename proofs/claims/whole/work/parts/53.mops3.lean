section M3
variable {I : mj_I}
theorem C_X10_put (hI : IV (I 314)) {n a c : Nat} {x : Int32} (h2 : I 313 2 = nI n) (hn : n ≤ 5) (ha : a < 2) (hc : c < 12) (hx : -1 ≤ x ∧ x ≤ 99) (hl : tn (I 314 0) < 200) : mj_R D_X10_put [.inr (some 313), .inl (nI a), .inl (nI c), .inl x] (mj_w I) (mj_px (fun r I' => r = some (.inl (nI (tn (I 314 0)))) ∧ MN n I I' (putV (I 314) (nI a) (nI c) x))) := by
  have m0 := s_313
  have m1 := s_314
  have hno := C_X10_notes h2 hn
  have e0 : I 314 0 = nI (tn (I 314 0)) := hI.1.1
  have hin1 := in_t (I := I) (x := nI a) (lo := 0) (hi := 1) ⟨nI_pos' (by omega), nI_le (b := 1) (by omega) (by decide)⟩
  have hin2 := in_t (I := I) (x := nI c) (lo := 0) (hi := 11) ⟨nI_pos' (by omega), nI_le (b := 11) (by omega) (by decide)⟩
  have hin3 := in_t (I := I) (x := x) (lo := -1) (hi := 99) hx
  have hcc := fun (J : mj_I) f => C_X10_c (I := J) (k := tn (I 314 0)) (f := f)
  refine mj_enter (by decide +kernel) (Nat.le_of_ble_eq_true rfl) ?_
  refine J_ild S_X10_put rfl rfl ?_
  refine J_C S_X10_put rfl ?_
  refine J_C S_X10_put rfl ?_
  refine J_CSx S_X10_put rfl rfl (by simp) (hin1) rfl ?_
  refine J_if S_X10_put rfl (fun c6 => False.elim (absurd c6 (by decide))) (fun c6 => ?_)
  refine J_ild S_X10_put rfl rfl ?_
  refine J_C S_X10_put rfl ?_
  refine J_C S_X10_put rfl ?_
  refine J_CSx S_X10_put rfl rfl (by simp) (hin2) rfl ?_
  refine J_if S_X10_put rfl (fun c16 => False.elim (absurd c16 (by decide))) (fun c16 => ?_)
  refine J_ild S_X10_put rfl rfl ?_
  refine J_C S_X10_put rfl ?_
  refine J_C S_X10_put rfl ?_
  refine J_CSx S_X10_put rfl rfl (by simp) (hin3) rfl ?_
  refine J_if S_X10_put rfl (fun c26 => ?_) (fun c26 => False.elim (absurd c26 (by decide)))
  refine J_ald S_X10_put rfl rfl ?_
  refine J_getR S_X10_put rfl (o' := 314) (by assumption) (by omega) rfl ?_
  refine J_C S_X10_put rfl ?_
  refine J_iald S_X10_put rfl (by assumption) (by omega) (j := 0) rfl (by omega) (by decide) ?_
  refine J_C S_X10_put rfl ?_
  refine J_cmp S_X10_put rfl (fun c41 => ?_) (fun c41 => False.elim (absurd ((nI_eq (b := 200) (by omega) (by decide)).mp (e0.symm.trans c41)) (by omega)))
  refine J_ald S_X10_put rfl rfl ?_
  refine J_CV S_X10_put rfl rfl (by assumption) (by omega) (by simp) (hno) ?_
  rintro _ _ ⟨I1, rfl, rfl, f1, f2, f3⟩
  refine J_ald S_X10_put rfl rfl ?_
  refine J_getR S_X10_put rfl (o' := 314) (by assumption) (by omega) rfl ?_
  refine J_C S_X10_put rfl ?_
  refine J_iald S_X10_put rfl (by assumption) (by omega) (j := 0) rfl (by omega) (by decide) ?_
  rw [show I1 314 0 = nI (tn (I 314 0)) by rw [f1 314 (by decide) (by decide)]; exact e0]
  refine J_ist S_X10_put rfl rfl ?_
  refine J_ald S_X10_put rfl rfl ?_
  refine J_getR S_X10_put rfl (o' := 314) (by assumption) (by omega) rfl ?_
  refine J_ild S_X10_put rfl rfl ?_
  refine J_C S_X10_put rfl ?_
  refine J_CSx S_X10_put rfl rfl (by simp) (hcc _ 0) rfl ?_
  refine J_ild S_X10_put rfl rfl ?_
  refine J_iast S_X10_put rfl (by assumption) (by omega) (j := 15 + 3 * tn (I 314 0) + 0) rfl (by omega) (by decide) ?_
  refine J_ald S_X10_put rfl rfl ?_
  refine J_getR S_X10_put rfl (o' := 314) (by assumption) (by omega) rfl ?_
  refine J_ild S_X10_put rfl rfl ?_
  refine J_C S_X10_put rfl ?_
  refine J_CSx S_X10_put rfl rfl (by simp) (hcc _ 1) rfl ?_
  refine J_ild S_X10_put rfl rfl ?_
  refine J_iast S_X10_put rfl (by assumption) (by omega) (j := 15 + 3 * tn (I 314 0) + 1) rfl (by omega) (by decide) ?_
  refine J_ald S_X10_put rfl rfl ?_
  refine J_getR S_X10_put rfl (o' := 314) (by assumption) (by omega) rfl ?_
  refine J_ild S_X10_put rfl rfl ?_
  refine J_C S_X10_put rfl ?_
  refine J_CSx S_X10_put rfl rfl (by simp) (hcc _ 2) rfl ?_
  refine J_ild S_X10_put rfl rfl ?_
  refine J_iast S_X10_put rfl (by assumption) (by omega) (j := 15 + 3 * tn (I 314 0) + 2) rfl (by omega) (by decide) ?_
  refine J_ald S_X10_put rfl rfl ?_
  refine J_getR S_X10_put rfl (o' := 314) (by assumption) (by omega) rfl ?_
  refine J_C S_X10_put rfl ?_
  refine J_dup2 S_X10_put rfl ?_
  refine J_iald S_X10_put rfl (by assumption) (by omega) (j := 0) rfl (by omega) (by decide) ?_
  refine J_C S_X10_put rfl ?_
  refine J_bin S_X10_put rfl ?_
  refine J_iast S_X10_put rfl (by assumption) (by omega) (j := 0) rfl (by omega) (by decide) ?_
  refine J_ild S_X10_put rfl rfl ?_
  refine J_retI S_X10_put rfl ?_
  have e := f1 314 (by decide) (by decide)
  refine ⟨_, rfl, rfl, ?_⟩
  simp only [mj_up_eq, up_n (show 0 ≠ 15 + 3 * tn (I 314 0) + 0 by omega), up_n (show 0 ≠ 15 + 3 * tn (I 314 0) + 1 by omega), up_n (show 0 ≠ 15 + 3 * tn (I 314 0) + 2 by omega), e]
  exact mn_up (mn_up (mn_up (mn_up (mn_no f1 f2 f3))))
theorem C_X10_payAll (hI : IV (I 314)) {n m : Nat} {t : Nat → Nat} (h2 : I 313 2 = nI n) (hn : n ≤ 5) (ht : ∀ i, t i < 8) (hm : m ≤ 8) (hO : OR (I 314) (tn (I 314 14)) (wt (I 314)) m t) (hz : ¬ I 314 2 = 0) : mj_R D_X10_payAll [.inr (some 313)] (mj_w I) (mj_px (fun r I' => r = some (.inl (nI (pvN (I 314) t m))) ∧ MN n I I' (pvV (I 314) t m))) := by
  have m0 := s_313
  have m1 := s_314
  have m7 := s_320
  have hno := C_X10_notes h2 hn
  have h14 := (hI.2.2.2.1 5 (by decide)).1
  have e14 : I 314 14 = nI (tn (I 314 14)) := h14.1
  have l14 : tn (I 314 14) ≤ 2 := h14.2
  have hte := fun i hi => (OR_mem hO (i := i) hi).2.1
  refine mj_enter (by decide +kernel) (Nat.le_of_ble_eq_true rfl) ?_
  have key : ∀ (s i : Nat) (I' : mj_I), i + s = m → MN n I I' (pvV (I 314) t i) → (∀ j, j < m → I' 320 j = nI (t j)) →
      mj_J D_X10_payAll (mj_px (fun r I' => r = some (.inl (nI (pvN (I 314) t m))) ∧ MN n I I' (pvV (I 314) t m))) 32 [some (.inr (some 313)), some (.inl (nI m)), some (.inl (nI (pvN (I 314) t i))), some (.inl (nI i))] [] (mj_w I') (0, 0) := by
    intro s
    induction s with
    | zero =>
      intro i I' hi hM hT
      obtain rfl : i = m := by omega
      refine J_ild S_X10_payAll rfl rfl ?_
      refine J_ild S_X10_payAll rfl rfl ?_
      refine J_cmp S_X10_payAll rfl (fun c34 => ?_) (fun c34 => False.elim (c34 (Int32.le_refl _)))
      refine J_ild S_X10_payAll rfl rfl ?_
      refine J_retI S_X10_payAll rfl ?_
      exact ⟨I', rfl, rfl, hM⟩
    | succ s ih =>
      intro i I' hi hM hT
      have him : i < m := by omega
      have hIi := pv_I ht hI hte i (by omega)
      have e314 := hM.2.1
      have h22 := hIi.2.2.1
      have hpy := C_X10_pays (I := I') (k := t i) (c := tn (pvV (I 314) t i 2)) (by rw [e314]; exact hIi) (ht i) (by rw [e314, pv_q i _ 4 (by decide)]; exact hte i him) h22.2
      rw [e314, Nat.min_self] at hpy
      have eT : I' 320 i = nI (t i) := hT i him
      have e2 : I' 314 2 = nI (tn (pvV (I 314) t i 2)) := by rw [e314]; exact h22.1
      refine J_ild S_X10_payAll rfl rfl ?_
      refine J_ild S_X10_payAll rfl rfl ?_
      refine J_cmp S_X10_payAll rfl (fun c34 => False.elim (nI_ge him (by omega) c34)) (fun c34 => ?_)
      refine J_ild S_X10_payAll rfl rfl ?_
      refine J_ald S_X10_payAll rfl rfl ?_
      refine J_ald S_X10_payAll rfl rfl ?_
      refine J_getR S_X10_payAll rfl (o' := 320) (by assumption) (by omega) rfl ?_
      refine J_ild S_X10_payAll rfl rfl ?_
      refine J_iald S_X10_payAll rfl (by assumption) (by omega) (j := i) rfl (by omega) (by decide) ?_
      rw [eT]
      refine J_ald S_X10_payAll rfl rfl ?_
      refine J_getR S_X10_payAll rfl (o' := 314) (by assumption) (by omega) rfl ?_
      refine J_C S_X10_payAll rfl ?_
      refine J_iald S_X10_payAll rfl (by assumption) (by omega) (j := 2) rfl (by omega) (by decide) ?_
      rw [e2]
      refine J_CV S_X10_payAll rfl rfl (by assumption) (by omega) (by simp) (hpy) ?_
      rintro _ _ ⟨I2, rfl, rfl, g1, g2, g3⟩
      refine J_bin S_X10_payAll rfl ?_
      refine J_ist S_X10_payAll rfl rfl ?_
      refine J_inc S_X10_payAll rfl rfl rfl ?_
      refine J_goto S_X10_payAll rfl ?_
      rw [nI_add, ← nI_succ]
      obtain ⟨w1, w2, ⟨d, m', q1, q2⟩, w4⟩ := hM
      exact ih (i + 1) I2 (by omega) ⟨fun q a b c d e f g => by rw [g2 q a b]; exact w1 q a b c d e f g, g1, ⟨d, m', by rw [g2 315 (by decide) (by decide)]; exact q1, by rw [g3 2 (by decide) (by decide)]; exact q2⟩, by rw [g3 4 (by decide) (by decide)]; exact w4⟩ (fun j hj => by rw [g2 320 (by decide) (by decide)]; exact hT j hj)
  have hla := fun (I1 : mj_I) (e : I1 314 = I 314) => C_X10_laysTurns (I := I1) (r := tn (I 314 14)) (n := m) (t := t) (by rw [e]; exact hI) (by omega) (by rw [e]; exact hO)
  refine J_ald S_X10_payAll rfl rfl ?_
  refine J_getR S_X10_payAll rfl (o' := 314) (by assumption) (by omega) rfl ?_
  refine J_C S_X10_payAll rfl ?_
  refine J_iald S_X10_payAll rfl (by assumption) (by omega) (j := 2) rfl (by omega) (by decide) ?_
  refine J_if S_X10_payAll rfl (fun c6 => ?_) (fun c6 => False.elim (hz c6))
  refine J_ald S_X10_payAll rfl rfl ?_
  refine J_CV S_X10_payAll rfl rfl (by assumption) (by omega) (by simp) (hno) ?_
  rintro _ _ ⟨I1, rfl, rfl, f1, f2, f3⟩
  refine J_ald S_X10_payAll rfl rfl ?_
  refine J_ald S_X10_payAll rfl rfl ?_
  refine J_getR S_X10_payAll rfl (o' := 314) (by assumption) (by omega) rfl ?_
  refine J_C S_X10_payAll rfl ?_
  refine J_iald S_X10_payAll rfl (by assumption) (by omega) (j := 14) rfl (by omega) (by decide) ?_
  rw [f1 314 (by decide) (by decide), e14]
  refine J_CV S_X10_payAll rfl rfl (by assumption) (by omega) (by simp) (hla I1 (f1 314 (by decide) (by decide))) ?_
  rintro _ _ ⟨I2, rfl, rfl, g1, g2⟩
  refine J_ist S_X10_payAll rfl rfl ?_
  refine J_C S_X10_payAll rfl ?_
  refine J_ist S_X10_payAll rfl rfl ?_
  refine J_C S_X10_payAll rfl ?_
  refine J_ist S_X10_payAll rfl rfl ?_
  have M := mn_no f1 f2 f3
  obtain ⟨w1, w2, ⟨d, m', q1, q2⟩, w4⟩ := M
  exact key m 0 I2 (by omega) ⟨fun q a b c d e f g => by rw [g1 q g]; exact w1 q a b c d e f g, by rw [g1 314 (by decide)]; exact w2, ⟨d, m', by rw [g1 315 (by decide)]; exact q1, by rw [g1 313 (by decide)]; exact q2⟩, by rw [g1 313 (by decide)]; exact w4⟩ g2
end M3
