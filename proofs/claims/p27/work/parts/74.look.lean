theorem lk_tl {v : mv} (hI : IV v) (g : Nat → Bool) : msk (fun k => ex v k && g k) 8 = msk (fun k => ex v k && g k) (tn (v 1)) :=
  msk_zero hI.2.1.2 (fun i h1 h2 => by
    show (ex v i && g i) = false
    rw [ex_f (hI.2.2.2.2.2.2 i h1 h2)]
    rfl)
def smD (v : mv) : Nat → Int32
  | 0 => 0
  | n + 1 => smD v n + vk v n 7
theorem smD_sm {v : mv} (hI : IV v) : ∀ n, n ≤ tn (v 1) → smD v n = sm (ex v) (fun k => vk v k 7) n
  | 0, _ => rfl
  | n + 1, h => by
    rw [smD, sm, smD_sm hI n (by omega)]
    have hw := hI.2.2.2.2.2.1 n (by omega)
    rcases hw.1 with h4 | h4
    · rw [ex_f h4, if_neg (by decide), hw.2.2.2.2.2.2.2.2.2.2.2.2 h4, Int32.add_zero]
    · rw [ex_t h4, if_pos rfl]
theorem sm_tl {v : mv} (hI : IV v) (g : Nat → Int32) : sm (ex v) g 8 = sm (ex v) g (tn (v 1)) := by
  have h8 : ∀ m, tn (v 1) + m ≤ 8 → sm (ex v) g (tn (v 1) + m) = sm (ex v) g (tn (v 1)) := by
    intro m
    induction m with
    | zero => intro _; rfl
    | succ m ih =>
      intro hm
      rw [← Nat.add_assoc, sm, ex_f (hI.2.2.2.2.2.2 (tn (v 1) + m) (by omega) (by omega)), if_neg (by decide), ih (by omega)]
  have h := h8 (8 - tn (v 1)) (by have := hI.2.1.2; omega)
  rw [show tn (v 1) + (8 - tn (v 1)) = 8 by have := hI.2.1.2; omega] at h
  exact h
section P6
variable {I : mj_I}
theorem X9_count_no {a : Int32} (h : a < 0 ∨ nI 23 ≤ a) : mj_R D_X9_count [.inr (some 0), .inl a] (mj_w I) (mj_ex (some (.inl (-100000001))) I) := by
  have h23 : ¬ (0 ≤ a ∧ a ≤ 22) := by
    intro g
    rcases h with h | h
    · exact Int32.not_lt.mpr g.1 h
    · obtain ⟨j, hj, rfl⟩ := i_rng (n := 22) (by decide) g.1 g.2
      exact nI_ge (show j < 23 by omega) (by decide) h
  refine mj_enter (by decide +kernel) (Nat.le_of_ble_eq_true rfl) ?_
  refine J_ild S_X9_count rfl rfl ?_
  refine J_if S_X9_count rfl (fun c1 => ?_) (fun c1 => ?_)
  · refine J_C S_X9_count rfl ?_
    refine J_retI S_X9_count rfl ?_
    exact ⟨rfl, rfl⟩
  · refine J_ild S_X9_count rfl rfl ?_
    refine J_C S_X9_count rfl ?_
    refine J_cmp S_X9_count rfl (fun c7 => ?_) (fun c7 => ?_)
    · exact absurd ⟨Int32.not_lt.mp c1, c7⟩ h23
    · refine J_C S_X9_count rfl ?_
      refine J_retI S_X9_count rfl ?_
      exact ⟨rfl, rfl⟩
theorem X9_count_0 {w p : mv} {f : Nat → Int32} {o n L : Nat} (hc : CR I w p o n L f) : mj_R D_X9_count [.inr (some 0), .inl (nI 0)] (mj_w I) (mj_ex (some (.inl (w 0))) I) := by
  have m0 := s_0
  have m1 := s_1
  have m2 := s_2
  have m4 := mj_S4.1
  have m5 := mj_B5.1
  have m6 : mj_sh 6 = (2, 3) := mj_B5.2.1
  have m52 := s_52
  have hR : RB I 5 w := hc.1.1
  have hI : IV w := hc.1.2.1
  refine mj_enter (by decide +kernel) (Nat.le_of_ble_eq_true rfl) ?_
  refine J_ild S_X9_count rfl rfl ?_
  refine J_if S_X9_count rfl (fun c1 => False.elim (absurd c1 (by decide))) (fun c1 => ?_)
  refine J_ild S_X9_count rfl rfl ?_
  refine J_C S_X9_count rfl ?_
  refine J_cmp S_X9_count rfl (fun c7 => ?_) (fun c7 => False.elim (c7 (by decide)))
  refine J_ald S_X9_count rfl rfl ?_
  refine J_getR S_X9_count rfl (o' := 4) (by assumption) (by omega) rfl ?_
  refine J_getR S_X9_count rfl (o' := 5) (by assumption) (by omega) rfl ?_
  refine J_ast S_X9_count rfl rfl ?_
  refine J_ild S_X9_count rfl rfl ?_
  refine J_sw S_X9_count rfl ⟨fun _ => ?_, fun c => False.elim (by revert c; decide)⟩
  refine J_ald S_X9_count rfl rfl ?_
  refine J_getR S_X9_count rfl (o' := 6) (by assumption) (by omega) rfl ?_
  refine J_getI S_X9_count rfl (by assumption) (by omega) ?_
  refine J_retI S_X9_count rfl ?_
  rw [show I 6 2 = w 0 from hR.1]; exact ⟨rfl, rfl⟩
theorem X9_count_1 {w p : mv} {f : Nat → Int32} {o n L : Nat} (hc : CR I w p o n L f) : mj_R D_X9_count [.inr (some 0), .inl (nI 1)] (mj_w I) (mj_ex (some (.inl (nI (nV w (tn (w 1)))))) I) := by
  have m0 := s_0
  have m1 := s_1
  have m2 := s_2
  have m4 := mj_S4.1
  have m5 := mj_B5.1
  have m6 : mj_sh 6 = (2, 3) := mj_B5.2.1
  have m52 := s_52
  have hR : RB I 5 w := hc.1.1
  have hI : IV w := hc.1.2.1
  refine mj_enter (by decide +kernel) (Nat.le_of_ble_eq_true rfl) ?_
  refine J_ild S_X9_count rfl rfl ?_
  refine J_if S_X9_count rfl (fun c1 => False.elim (absurd c1 (by decide))) (fun c1 => ?_)
  refine J_ild S_X9_count rfl rfl ?_
  refine J_C S_X9_count rfl ?_
  refine J_cmp S_X9_count rfl (fun c7 => ?_) (fun c7 => False.elim (c7 (by decide)))
  refine J_ald S_X9_count rfl rfl ?_
  refine J_getR S_X9_count rfl (o' := 4) (by assumption) (by omega) rfl ?_
  refine J_getR S_X9_count rfl (o' := 5) (by assumption) (by omega) rfl ?_
  refine J_ast S_X9_count rfl rfl ?_
  refine J_ild S_X9_count rfl rfl ?_
  refine J_sw S_X9_count rfl ⟨fun c => False.elim (by revert c; decide), fun _ => ⟨fun _ => ?_, fun c => False.elim (by revert c; decide)⟩⟩
  refine J_ald S_X9_count rfl rfl ?_
  refine J_C S_X9_count rfl ?_
  refine J_CVx S_X9_count rfl rfl (by assumption) (by omega) (by simp) (C_X0_setOf mj_B5 hR hI (w := 0) (by decide)) rfl ?_
  refine J_CSx S_X9_count rfl rfl (by simp) (C_J6_bitCount) rfl ?_
  refine J_retI S_X9_count rfl ?_
  rw [bc_nV hI]; exact ⟨rfl, rfl⟩
theorem X9_count_2 {w p : mv} {f : Nat → Int32} {o n L : Nat} (hc : CR I w p o n L f) : mj_R D_X9_count [.inr (some 0), .inl (nI 2)] (mj_w I) (mj_ex (some (.inl (w 1))) I) := by
  have m0 := s_0
  have m1 := s_1
  have m2 := s_2
  have m4 := mj_S4.1
  have m5 := mj_B5.1
  have m6 : mj_sh 6 = (2, 3) := mj_B5.2.1
  have m52 := s_52
  have hR : RB I 5 w := hc.1.1
  have hI : IV w := hc.1.2.1
  refine mj_enter (by decide +kernel) (Nat.le_of_ble_eq_true rfl) ?_
  refine J_ild S_X9_count rfl rfl ?_
  refine J_if S_X9_count rfl (fun c1 => False.elim (absurd c1 (by decide))) (fun c1 => ?_)
  refine J_ild S_X9_count rfl rfl ?_
  refine J_C S_X9_count rfl ?_
  refine J_cmp S_X9_count rfl (fun c7 => ?_) (fun c7 => False.elim (c7 (by decide)))
  refine J_ald S_X9_count rfl rfl ?_
  refine J_getR S_X9_count rfl (o' := 4) (by assumption) (by omega) rfl ?_
  refine J_getR S_X9_count rfl (o' := 5) (by assumption) (by omega) rfl ?_
  refine J_ast S_X9_count rfl rfl ?_
  refine J_ild S_X9_count rfl rfl ?_
  refine J_sw S_X9_count rfl ⟨fun c => False.elim (by revert c; decide), fun _ => ⟨fun c => False.elim (by revert c; decide), fun _ => ⟨fun _ => ?_, fun c => False.elim (by revert c; decide)⟩⟩⟩
  refine J_ald S_X9_count rfl rfl ?_
  refine J_getI S_X9_count rfl (by assumption) (by omega) ?_
  refine J_retI S_X9_count rfl ?_
  rw [show I 5 4 = w 1 from hR.2.1 0 (by decide)]; exact ⟨rfl, rfl⟩
theorem X9_count_3 {w p : mv} {f : Nat → Int32} {o n L : Nat} (hc : CR I w p o n L f) : mj_R D_X9_count [.inr (some 0), .inl (nI 3)] (mj_w I) (mj_ex (some (.inl (nI (msk (fun k => ex w k && bel w 0 k) 8)))) I) := by
  have m0 := s_0
  have m1 := s_1
  have m2 := s_2
  have m4 := mj_S4.1
  have m5 := mj_B5.1
  have m6 : mj_sh 6 = (2, 3) := mj_B5.2.1
  have m52 := s_52
  have hR : RB I 5 w := hc.1.1
  have hI : IV w := hc.1.2.1
  refine mj_enter (by decide +kernel) (Nat.le_of_ble_eq_true rfl) ?_
  refine J_ild S_X9_count rfl rfl ?_
  refine J_if S_X9_count rfl (fun c1 => False.elim (absurd c1 (by decide))) (fun c1 => ?_)
  refine J_ild S_X9_count rfl rfl ?_
  refine J_C S_X9_count rfl ?_
  refine J_cmp S_X9_count rfl (fun c7 => ?_) (fun c7 => False.elim (c7 (by decide)))
  refine J_ald S_X9_count rfl rfl ?_
  refine J_getR S_X9_count rfl (o' := 4) (by assumption) (by omega) rfl ?_
  refine J_getR S_X9_count rfl (o' := 5) (by assumption) (by omega) rfl ?_
  refine J_ast S_X9_count rfl rfl ?_
  refine J_ild S_X9_count rfl rfl ?_
  refine J_sw S_X9_count rfl ⟨fun c => False.elim (by revert c; decide), fun _ => ⟨fun c => False.elim (by revert c; decide), fun _ => ⟨fun c => False.elim (by revert c; decide), fun _ => ⟨fun _ => ?_, fun c => False.elim (by revert c; decide)⟩⟩⟩⟩
  refine J_ald S_X9_count rfl rfl ?_
  refine J_C S_X9_count rfl ?_
  refine J_CVx S_X9_count rfl rfl (by assumption) (by omega) (by simp) (C_X0_setOf mj_B5 hR hI (w := 0) (by decide)) rfl ?_
  refine J_retI S_X9_count rfl ?_
  exact ⟨rfl, rfl⟩
theorem X9_count_4 {w p : mv} {f : Nat → Int32} {o n L : Nat} (hc : CR I w p o n L f) : mj_R D_X9_count [.inr (some 0), .inl (nI 4)] (mj_w I) (mj_ex (some (.inl (nI (msk (fun k => ex w k && bel w 1 k) 8)))) I) := by
  have m0 := s_0
  have m1 := s_1
  have m2 := s_2
  have m4 := mj_S4.1
  have m5 := mj_B5.1
  have m6 : mj_sh 6 = (2, 3) := mj_B5.2.1
  have m52 := s_52
  have hR : RB I 5 w := hc.1.1
  have hI : IV w := hc.1.2.1
  refine mj_enter (by decide +kernel) (Nat.le_of_ble_eq_true rfl) ?_
  refine J_ild S_X9_count rfl rfl ?_
  refine J_if S_X9_count rfl (fun c1 => False.elim (absurd c1 (by decide))) (fun c1 => ?_)
  refine J_ild S_X9_count rfl rfl ?_
  refine J_C S_X9_count rfl ?_
  refine J_cmp S_X9_count rfl (fun c7 => ?_) (fun c7 => False.elim (c7 (by decide)))
  refine J_ald S_X9_count rfl rfl ?_
  refine J_getR S_X9_count rfl (o' := 4) (by assumption) (by omega) rfl ?_
  refine J_getR S_X9_count rfl (o' := 5) (by assumption) (by omega) rfl ?_
  refine J_ast S_X9_count rfl rfl ?_
  refine J_ild S_X9_count rfl rfl ?_
  refine J_sw S_X9_count rfl ⟨fun c => False.elim (by revert c; decide), fun _ => ⟨fun c => False.elim (by revert c; decide), fun _ => ⟨fun c => False.elim (by revert c; decide), fun _ => ⟨fun c => False.elim (by revert c; decide), fun _ => ⟨fun _ => ?_, fun c => False.elim (by revert c; decide)⟩⟩⟩⟩⟩
  refine J_ald S_X9_count rfl rfl ?_
  refine J_C S_X9_count rfl ?_
  refine J_CVx S_X9_count rfl rfl (by assumption) (by omega) (by simp) (C_X0_setOf mj_B5 hR hI (w := 1) (by decide)) rfl ?_
  refine J_retI S_X9_count rfl ?_
  exact ⟨rfl, rfl⟩
theorem X9_count_5 {w p : mv} {f : Nat → Int32} {o n L : Nat} (hc : CR I w p o n L f) : mj_R D_X9_count [.inr (some 0), .inl (nI 5)] (mj_w I) (mj_ex (some (.inl (nI (msk (fun k => ex w k && bel w 3 k) 8)))) I) := by
  have m0 := s_0
  have m1 := s_1
  have m2 := s_2
  have m4 := mj_S4.1
  have m5 := mj_B5.1
  have m6 : mj_sh 6 = (2, 3) := mj_B5.2.1
  have m52 := s_52
  have hR : RB I 5 w := hc.1.1
  have hI : IV w := hc.1.2.1
  refine mj_enter (by decide +kernel) (Nat.le_of_ble_eq_true rfl) ?_
  refine J_ild S_X9_count rfl rfl ?_
  refine J_if S_X9_count rfl (fun c1 => False.elim (absurd c1 (by decide))) (fun c1 => ?_)
  refine J_ild S_X9_count rfl rfl ?_
  refine J_C S_X9_count rfl ?_
  refine J_cmp S_X9_count rfl (fun c7 => ?_) (fun c7 => False.elim (c7 (by decide)))
  refine J_ald S_X9_count rfl rfl ?_
  refine J_getR S_X9_count rfl (o' := 4) (by assumption) (by omega) rfl ?_
  refine J_getR S_X9_count rfl (o' := 5) (by assumption) (by omega) rfl ?_
  refine J_ast S_X9_count rfl rfl ?_
  refine J_ild S_X9_count rfl rfl ?_
  refine J_sw S_X9_count rfl ⟨fun c => False.elim (by revert c; decide), fun _ => ⟨fun c => False.elim (by revert c; decide), fun _ => ⟨fun c => False.elim (by revert c; decide), fun _ => ⟨fun c => False.elim (by revert c; decide), fun _ => ⟨fun c => False.elim (by revert c; decide), fun _ => ⟨fun _ => ?_, fun c => False.elim (by revert c; decide)⟩⟩⟩⟩⟩⟩
  refine J_ald S_X9_count rfl rfl ?_
  refine J_C S_X9_count rfl ?_
  refine J_CVx S_X9_count rfl rfl (by assumption) (by omega) (by simp) (C_X0_setOf mj_B5 hR hI (w := 3) (by decide)) rfl ?_
  refine J_retI S_X9_count rfl ?_
  exact ⟨rfl, rfl⟩
theorem X9_count_6 {w p : mv} {f : Nat → Int32} {o n L : Nat} (hc : CR I w p o n L f) : mj_R D_X9_count [.inr (some 0), .inl (nI 6)] (mj_w I) (mj_ex (some (.inl (w 2))) I) := by
  have m0 := s_0
  have m1 := s_1
  have m2 := s_2
  have m4 := mj_S4.1
  have m5 := mj_B5.1
  have m6 : mj_sh 6 = (2, 3) := mj_B5.2.1
  have m52 := s_52
  have hR : RB I 5 w := hc.1.1
  have hI : IV w := hc.1.2.1
  refine mj_enter (by decide +kernel) (Nat.le_of_ble_eq_true rfl) ?_
  refine J_ild S_X9_count rfl rfl ?_
  refine J_if S_X9_count rfl (fun c1 => False.elim (absurd c1 (by decide))) (fun c1 => ?_)
  refine J_ild S_X9_count rfl rfl ?_
  refine J_C S_X9_count rfl ?_
  refine J_cmp S_X9_count rfl (fun c7 => ?_) (fun c7 => False.elim (c7 (by decide)))
  refine J_ald S_X9_count rfl rfl ?_
  refine J_getR S_X9_count rfl (o' := 4) (by assumption) (by omega) rfl ?_
  refine J_getR S_X9_count rfl (o' := 5) (by assumption) (by omega) rfl ?_
  refine J_ast S_X9_count rfl rfl ?_
  refine J_ild S_X9_count rfl rfl ?_
  refine J_sw S_X9_count rfl ⟨fun c => False.elim (by revert c; decide), fun _ => ⟨fun c => False.elim (by revert c; decide), fun _ => ⟨fun c => False.elim (by revert c; decide), fun _ => ⟨fun c => False.elim (by revert c; decide), fun _ => ⟨fun c => False.elim (by revert c; decide), fun _ => ⟨fun c => False.elim (by revert c; decide), fun _ => ⟨fun _ => ?_, fun c => False.elim (by revert c; decide)⟩⟩⟩⟩⟩⟩⟩
  refine J_ald S_X9_count rfl rfl ?_
  refine J_getI S_X9_count rfl (by assumption) (by omega) ?_
  refine J_retI S_X9_count rfl ?_
  rw [show I 5 5 = w 2 from hR.2.1 1 (by decide)]; exact ⟨rfl, rfl⟩
theorem X9_count_7 {w p : mv} {f : Nat → Int32} {o n L : Nat} (hc : CR I w p o n L f) : mj_R D_X9_count [.inr (some 0), .inl (nI 7)] (mj_w I) (mj_ex (some (.inl (w 3))) I) := by
  have m0 := s_0
  have m1 := s_1
  have m2 := s_2
  have m4 := mj_S4.1
  have m5 := mj_B5.1
  have m6 : mj_sh 6 = (2, 3) := mj_B5.2.1
  have m52 := s_52
  have hR : RB I 5 w := hc.1.1
  have hI : IV w := hc.1.2.1
  refine mj_enter (by decide +kernel) (Nat.le_of_ble_eq_true rfl) ?_
  refine J_ild S_X9_count rfl rfl ?_
  refine J_if S_X9_count rfl (fun c1 => False.elim (absurd c1 (by decide))) (fun c1 => ?_)
  refine J_ild S_X9_count rfl rfl ?_
  refine J_C S_X9_count rfl ?_
  refine J_cmp S_X9_count rfl (fun c7 => ?_) (fun c7 => False.elim (c7 (by decide)))
  refine J_ald S_X9_count rfl rfl ?_
  refine J_getR S_X9_count rfl (o' := 4) (by assumption) (by omega) rfl ?_
  refine J_getR S_X9_count rfl (o' := 5) (by assumption) (by omega) rfl ?_
  refine J_ast S_X9_count rfl rfl ?_
  refine J_ild S_X9_count rfl rfl ?_
  refine J_sw S_X9_count rfl ⟨fun c => False.elim (by revert c; decide), fun _ => ⟨fun c => False.elim (by revert c; decide), fun _ => ⟨fun c => False.elim (by revert c; decide), fun _ => ⟨fun c => False.elim (by revert c; decide), fun _ => ⟨fun c => False.elim (by revert c; decide), fun _ => ⟨fun c => False.elim (by revert c; decide), fun _ => ⟨fun c => False.elim (by revert c; decide), fun _ => ⟨fun _ => ?_, fun c => False.elim (by revert c; decide)⟩⟩⟩⟩⟩⟩⟩⟩
  refine J_ald S_X9_count rfl rfl ?_
  refine J_getI S_X9_count rfl (by assumption) (by omega) ?_
  refine J_retI S_X9_count rfl ?_
  rw [show I 5 6 = w 3 from hR.2.1 2 (by decide)]; exact ⟨rfl, rfl⟩
theorem X9_count_8 {w p : mv} {f : Nat → Int32} {o n L : Nat} (hc : CR I w p o n L f) : mj_R D_X9_count [.inr (some 0), .inl (nI 8)] (mj_w I) (mj_ex (some (.inl (w 4))) I) := by
  have m0 := s_0
  have m1 := s_1
  have m2 := s_2
  have m4 := mj_S4.1
  have m5 := mj_B5.1
  have m6 : mj_sh 6 = (2, 3) := mj_B5.2.1
  have m52 := s_52
  have hR : RB I 5 w := hc.1.1
  have hI : IV w := hc.1.2.1
  refine mj_enter (by decide +kernel) (Nat.le_of_ble_eq_true rfl) ?_
  refine J_ild S_X9_count rfl rfl ?_
  refine J_if S_X9_count rfl (fun c1 => False.elim (absurd c1 (by decide))) (fun c1 => ?_)
  refine J_ild S_X9_count rfl rfl ?_
  refine J_C S_X9_count rfl ?_
  refine J_cmp S_X9_count rfl (fun c7 => ?_) (fun c7 => False.elim (c7 (by decide)))
  refine J_ald S_X9_count rfl rfl ?_
  refine J_getR S_X9_count rfl (o' := 4) (by assumption) (by omega) rfl ?_
  refine J_getR S_X9_count rfl (o' := 5) (by assumption) (by omega) rfl ?_
  refine J_ast S_X9_count rfl rfl ?_
  refine J_ild S_X9_count rfl rfl ?_
  refine J_sw S_X9_count rfl ⟨fun c => False.elim (by revert c; decide), fun _ => ⟨fun c => False.elim (by revert c; decide), fun _ => ⟨fun c => False.elim (by revert c; decide), fun _ => ⟨fun c => False.elim (by revert c; decide), fun _ => ⟨fun c => False.elim (by revert c; decide), fun _ => ⟨fun c => False.elim (by revert c; decide), fun _ => ⟨fun c => False.elim (by revert c; decide), fun _ => ⟨fun c => False.elim (by revert c; decide), fun _ => ⟨fun _ => ?_, fun c => False.elim (by revert c; decide)⟩⟩⟩⟩⟩⟩⟩⟩⟩
  refine J_ald S_X9_count rfl rfl ?_
  refine J_getI S_X9_count rfl (by assumption) (by omega) ?_
  refine J_retI S_X9_count rfl ?_
  rw [show I 5 7 = w 4 from hR.2.1 3 (by decide)]; exact ⟨rfl, rfl⟩
theorem X9_count_9 {w p : mv} {f : Nat → Int32} {o n L : Nat} (hc : CR I w p o n L f) : mj_R D_X9_count [.inr (some 0), .inl (nI 9)] (mj_w I) (mj_ex (some (.inl (w 5))) I) := by
  have m0 := s_0
  have m1 := s_1
  have m2 := s_2
  have m4 := mj_S4.1
  have m5 := mj_B5.1
  have m6 : mj_sh 6 = (2, 3) := mj_B5.2.1
  have m52 := s_52
  have hR : RB I 5 w := hc.1.1
  have hI : IV w := hc.1.2.1
  refine mj_enter (by decide +kernel) (Nat.le_of_ble_eq_true rfl) ?_
  refine J_ild S_X9_count rfl rfl ?_
  refine J_if S_X9_count rfl (fun c1 => False.elim (absurd c1 (by decide))) (fun c1 => ?_)
  refine J_ild S_X9_count rfl rfl ?_
  refine J_C S_X9_count rfl ?_
  refine J_cmp S_X9_count rfl (fun c7 => ?_) (fun c7 => False.elim (c7 (by decide)))
  refine J_ald S_X9_count rfl rfl ?_
  refine J_getR S_X9_count rfl (o' := 4) (by assumption) (by omega) rfl ?_
  refine J_getR S_X9_count rfl (o' := 5) (by assumption) (by omega) rfl ?_
  refine J_ast S_X9_count rfl rfl ?_
  refine J_ild S_X9_count rfl rfl ?_
  refine J_sw S_X9_count rfl ⟨fun c => False.elim (by revert c; decide), fun _ => ⟨fun c => False.elim (by revert c; decide), fun _ => ⟨fun c => False.elim (by revert c; decide), fun _ => ⟨fun c => False.elim (by revert c; decide), fun _ => ⟨fun c => False.elim (by revert c; decide), fun _ => ⟨fun c => False.elim (by revert c; decide), fun _ => ⟨fun c => False.elim (by revert c; decide), fun _ => ⟨fun c => False.elim (by revert c; decide), fun _ => ⟨fun c => False.elim (by revert c; decide), fun _ => ⟨fun _ => ?_, fun c => False.elim (by revert c; decide)⟩⟩⟩⟩⟩⟩⟩⟩⟩⟩
  refine J_ald S_X9_count rfl rfl ?_
  refine J_getI S_X9_count rfl (by assumption) (by omega) ?_
  refine J_retI S_X9_count rfl ?_
  rw [show I 5 8 = w 5 from hR.2.1 4 (by decide)]; exact ⟨rfl, rfl⟩
theorem X9_count_10 {w p : mv} {f : Nat → Int32} {o n L : Nat} (hc : CR I w p o n L f) : mj_R D_X9_count [.inr (some 0), .inl (nI 10)] (mj_w I) (mj_ex (some (.inl (w 6))) I) := by
  have m0 := s_0
  have m1 := s_1
  have m2 := s_2
  have m4 := mj_S4.1
  have m5 := mj_B5.1
  have m6 : mj_sh 6 = (2, 3) := mj_B5.2.1
  have m52 := s_52
  have hR : RB I 5 w := hc.1.1
  have hI : IV w := hc.1.2.1
  refine mj_enter (by decide +kernel) (Nat.le_of_ble_eq_true rfl) ?_
  refine J_ild S_X9_count rfl rfl ?_
  refine J_if S_X9_count rfl (fun c1 => False.elim (absurd c1 (by decide))) (fun c1 => ?_)
  refine J_ild S_X9_count rfl rfl ?_
  refine J_C S_X9_count rfl ?_
  refine J_cmp S_X9_count rfl (fun c7 => ?_) (fun c7 => False.elim (c7 (by decide)))
  refine J_ald S_X9_count rfl rfl ?_
  refine J_getR S_X9_count rfl (o' := 4) (by assumption) (by omega) rfl ?_
  refine J_getR S_X9_count rfl (o' := 5) (by assumption) (by omega) rfl ?_
  refine J_ast S_X9_count rfl rfl ?_
  refine J_ild S_X9_count rfl rfl ?_
  refine J_sw S_X9_count rfl ⟨fun c => False.elim (by revert c; decide), fun _ => ⟨fun c => False.elim (by revert c; decide), fun _ => ⟨fun c => False.elim (by revert c; decide), fun _ => ⟨fun c => False.elim (by revert c; decide), fun _ => ⟨fun c => False.elim (by revert c; decide), fun _ => ⟨fun c => False.elim (by revert c; decide), fun _ => ⟨fun c => False.elim (by revert c; decide), fun _ => ⟨fun c => False.elim (by revert c; decide), fun _ => ⟨fun c => False.elim (by revert c; decide), fun _ => ⟨fun c => False.elim (by revert c; decide), fun _ => ⟨fun _ => ?_, fun c => False.elim (by revert c; decide)⟩⟩⟩⟩⟩⟩⟩⟩⟩⟩⟩
  refine J_ald S_X9_count rfl rfl ?_
  refine J_getI S_X9_count rfl (by assumption) (by omega) ?_
  refine J_retI S_X9_count rfl ?_
  rw [show I 5 9 = w 6 from hR.2.1 5 (by decide)]; exact ⟨rfl, rfl⟩
theorem X9_count_11 {w p : mv} {f : Nat → Int32} {o n L : Nat} (hc : CR I w p o n L f) : mj_R D_X9_count [.inr (some 0), .inl (nI 11)] (mj_w I) (mj_ex (some (.inl (w 7))) I) := by
  have m0 := s_0
  have m1 := s_1
  have m2 := s_2
  have m4 := mj_S4.1
  have m5 := mj_B5.1
  have m6 : mj_sh 6 = (2, 3) := mj_B5.2.1
  have m52 := s_52
  have hR : RB I 5 w := hc.1.1
  have hI : IV w := hc.1.2.1
  refine mj_enter (by decide +kernel) (Nat.le_of_ble_eq_true rfl) ?_
  refine J_ild S_X9_count rfl rfl ?_
  refine J_if S_X9_count rfl (fun c1 => False.elim (absurd c1 (by decide))) (fun c1 => ?_)
  refine J_ild S_X9_count rfl rfl ?_
  refine J_C S_X9_count rfl ?_
  refine J_cmp S_X9_count rfl (fun c7 => ?_) (fun c7 => False.elim (c7 (by decide)))
  refine J_ald S_X9_count rfl rfl ?_
  refine J_getR S_X9_count rfl (o' := 4) (by assumption) (by omega) rfl ?_
  refine J_getR S_X9_count rfl (o' := 5) (by assumption) (by omega) rfl ?_
  refine J_ast S_X9_count rfl rfl ?_
  refine J_ild S_X9_count rfl rfl ?_
  refine J_sw S_X9_count rfl ⟨fun c => False.elim (by revert c; decide), fun _ => ⟨fun c => False.elim (by revert c; decide), fun _ => ⟨fun c => False.elim (by revert c; decide), fun _ => ⟨fun c => False.elim (by revert c; decide), fun _ => ⟨fun c => False.elim (by revert c; decide), fun _ => ⟨fun c => False.elim (by revert c; decide), fun _ => ⟨fun c => False.elim (by revert c; decide), fun _ => ⟨fun c => False.elim (by revert c; decide), fun _ => ⟨fun c => False.elim (by revert c; decide), fun _ => ⟨fun c => False.elim (by revert c; decide), fun _ => ⟨fun c => False.elim (by revert c; decide), fun _ => ⟨fun _ => ?_, fun c => False.elim (by revert c; decide)⟩⟩⟩⟩⟩⟩⟩⟩⟩⟩⟩⟩
  refine J_ald S_X9_count rfl rfl ?_
  refine J_getI S_X9_count rfl (by assumption) (by omega) ?_
  refine J_retI S_X9_count rfl ?_
  rw [show I 5 10 = w 7 from hR.2.1 6 (by decide)]; exact ⟨rfl, rfl⟩
theorem X9_count_12 {w p : mv} {f : Nat → Int32} {o n L : Nat} (hc : CR I w p o n L f) : mj_R D_X9_count [.inr (some 0), .inl (nI 12)] (mj_w I) (mj_ex (some (.inl (sm (ex w) (fun k => vk w k 7) 8))) I) := by
  have m0 := s_0
  have m1 := s_1
  have m2 := s_2
  have m4 := mj_S4.1
  have m5 := mj_B5.1
  have m6 : mj_sh 6 = (2, 3) := mj_B5.2.1
  have m52 := s_52
  have hR : RB I 5 w := hc.1.1
  have hI : IV w := hc.1.2.1
  refine mj_enter (by decide +kernel) (Nat.le_of_ble_eq_true rfl) ?_
  refine J_ild S_X9_count rfl rfl ?_
  refine J_if S_X9_count rfl (fun c1 => False.elim (absurd c1 (by decide))) (fun c1 => ?_)
  refine J_ild S_X9_count rfl rfl ?_
  refine J_C S_X9_count rfl ?_
  refine J_cmp S_X9_count rfl (fun c7 => ?_) (fun c7 => False.elim (c7 (by decide)))
  refine J_ald S_X9_count rfl rfl ?_
  refine J_getR S_X9_count rfl (o' := 4) (by assumption) (by omega) rfl ?_
  refine J_getR S_X9_count rfl (o' := 5) (by assumption) (by omega) rfl ?_
  refine J_ast S_X9_count rfl rfl ?_
  refine J_ild S_X9_count rfl rfl ?_
  refine J_sw S_X9_count rfl ⟨fun c => False.elim (by revert c; decide), fun _ => ⟨fun c => False.elim (by revert c; decide), fun _ => ⟨fun c => False.elim (by revert c; decide), fun _ => ⟨fun c => False.elim (by revert c; decide), fun _ => ⟨fun c => False.elim (by revert c; decide), fun _ => ⟨fun c => False.elim (by revert c; decide), fun _ => ⟨fun c => False.elim (by revert c; decide), fun _ => ⟨fun c => False.elim (by revert c; decide), fun _ => ⟨fun c => False.elim (by revert c; decide), fun _ => ⟨fun c => False.elim (by revert c; decide), fun _ => ⟨fun c => False.elim (by revert c; decide), fun _ => ⟨fun c => False.elim (by revert c; decide), fun _ => ⟨fun _ => ?_, fun c => False.elim (by revert c; decide)⟩⟩⟩⟩⟩⟩⟩⟩⟩⟩⟩⟩⟩
  refine J_ald S_X9_count rfl rfl ?_
  refine J_CVx S_X9_count rfl rfl (by assumption) (by omega) (by simp) (C_X0_allDebts mj_B5 hR hI) rfl ?_
  refine J_retI S_X9_count rfl ?_
  exact ⟨rfl, rfl⟩
theorem X9_count_13 {w p : mv} {f : Nat → Int32} {o n L : Nat} (hc : CR I w p o n L f) : mj_R D_X9_count [.inr (some 0), .inl (nI 13)] (mj_w I) (mj_ex (some (.inl (w 8))) I) := by
  have m0 := s_0
  have m1 := s_1
  have m2 := s_2
  have m4 := mj_S4.1
  have m5 := mj_B5.1
  have m6 : mj_sh 6 = (2, 3) := mj_B5.2.1
  have m52 := s_52
  have hR : RB I 5 w := hc.1.1
  have hI : IV w := hc.1.2.1
  refine mj_enter (by decide +kernel) (Nat.le_of_ble_eq_true rfl) ?_
  refine J_ild S_X9_count rfl rfl ?_
  refine J_if S_X9_count rfl (fun c1 => False.elim (absurd c1 (by decide))) (fun c1 => ?_)
  refine J_ild S_X9_count rfl rfl ?_
  refine J_C S_X9_count rfl ?_
  refine J_cmp S_X9_count rfl (fun c7 => ?_) (fun c7 => False.elim (c7 (by decide)))
  refine J_ald S_X9_count rfl rfl ?_
  refine J_getR S_X9_count rfl (o' := 4) (by assumption) (by omega) rfl ?_
  refine J_getR S_X9_count rfl (o' := 5) (by assumption) (by omega) rfl ?_
  refine J_ast S_X9_count rfl rfl ?_
  refine J_ild S_X9_count rfl rfl ?_
  refine J_sw S_X9_count rfl ⟨fun c => False.elim (by revert c; decide), fun _ => ⟨fun c => False.elim (by revert c; decide), fun _ => ⟨fun c => False.elim (by revert c; decide), fun _ => ⟨fun c => False.elim (by revert c; decide), fun _ => ⟨fun c => False.elim (by revert c; decide), fun _ => ⟨fun c => False.elim (by revert c; decide), fun _ => ⟨fun c => False.elim (by revert c; decide), fun _ => ⟨fun c => False.elim (by revert c; decide), fun _ => ⟨fun c => False.elim (by revert c; decide), fun _ => ⟨fun c => False.elim (by revert c; decide), fun _ => ⟨fun c => False.elim (by revert c; decide), fun _ => ⟨fun c => False.elim (by revert c; decide), fun _ => ⟨fun c => False.elim (by revert c; decide), fun _ => ⟨fun _ => ?_, fun c => False.elim (by revert c; decide)⟩⟩⟩⟩⟩⟩⟩⟩⟩⟩⟩⟩⟩⟩
  refine J_ald S_X9_count rfl rfl ?_
  refine J_getI S_X9_count rfl (by assumption) (by omega) ?_
  refine J_retI S_X9_count rfl ?_
  rw [show I 5 11 = w 8 from hR.2.1 7 (by decide)]; exact ⟨rfl, rfl⟩
theorem X9_count_14 {w p : mv} {f : Nat → Int32} {o n L : Nat} (hc : CR I w p o n L f) : mj_R D_X9_count [.inr (some 0), .inl (nI 14)] (mj_w I) (mj_ex (some (.inl (w 687 + w 1375))) I) := by
  have m0 := s_0
  have m1 := s_1
  have m2 := s_2
  have m4 := mj_S4.1
  have m5 := mj_B5.1
  have m6 : mj_sh 6 = (2, 3) := mj_B5.2.1
  have m52 := s_52
  have hR : RB I 5 w := hc.1.1
  have hI : IV w := hc.1.2.1
  have hsn := C_X5_snapshots (I := I) mj_S4
  obtain ⟨a0, a1, -⟩ := hc.1.2.2.2 0 (by decide)
  obtain ⟨b0, b1, -⟩ := hc.1.2.2.2 1 (by decide)
  have ea : (if I (4 + 17) 0 = 0 then (0 : Int32) else 1) = w 687 := by
    rw [a0]
    rcases a1 with e | e
    · rw [e]; decide
    · rw [e]; decide
  have eb : (if I (4 + 17) 1 = 0 then (0 : Int32) else 1) = w 1375 := by
    rw [b0]
    rcases b1 with e | e
    · rw [e]; decide
    · rw [e]; decide
  rw [ea, eb] at hsn
  refine mj_enter (by decide +kernel) (Nat.le_of_ble_eq_true rfl) ?_
  refine J_ild S_X9_count rfl rfl ?_
  refine J_if S_X9_count rfl (fun c1 => False.elim (absurd c1 (by decide))) (fun c1 => ?_)
  refine J_ild S_X9_count rfl rfl ?_
  refine J_C S_X9_count rfl ?_
  refine J_cmp S_X9_count rfl (fun c7 => ?_) (fun c7 => False.elim (c7 (by decide)))
  refine J_ald S_X9_count rfl rfl ?_
  refine J_getR S_X9_count rfl (o' := 4) (by assumption) (by omega) rfl ?_
  refine J_getR S_X9_count rfl (o' := 5) (by assumption) (by omega) rfl ?_
  refine J_ast S_X9_count rfl rfl ?_
  refine J_ild S_X9_count rfl rfl ?_
  refine J_sw S_X9_count rfl ⟨fun c => False.elim (by revert c; decide), fun _ => ⟨fun c => False.elim (by revert c; decide), fun _ => ⟨fun c => False.elim (by revert c; decide), fun _ => ⟨fun c => False.elim (by revert c; decide), fun _ => ⟨fun c => False.elim (by revert c; decide), fun _ => ⟨fun c => False.elim (by revert c; decide), fun _ => ⟨fun c => False.elim (by revert c; decide), fun _ => ⟨fun c => False.elim (by revert c; decide), fun _ => ⟨fun c => False.elim (by revert c; decide), fun _ => ⟨fun c => False.elim (by revert c; decide), fun _ => ⟨fun c => False.elim (by revert c; decide), fun _ => ⟨fun c => False.elim (by revert c; decide), fun _ => ⟨fun c => False.elim (by revert c; decide), fun _ => ⟨fun c => False.elim (by revert c; decide), fun _ => ⟨fun _ => ?_, fun c => False.elim (by revert c; decide)⟩⟩⟩⟩⟩⟩⟩⟩⟩⟩⟩⟩⟩⟩⟩
  refine J_ald S_X9_count rfl rfl ?_
  refine J_getR S_X9_count rfl (o' := 4) (by assumption) (by omega) rfl ?_
  refine J_CVx S_X9_count rfl rfl (by assumption) (by omega) (by simp) (hsn) rfl ?_
  refine J_retI S_X9_count rfl ?_
  exact ⟨rfl, rfl⟩
theorem X9_count_15 {w p : mv} {f : Nat → Int32} {o n L : Nat} (hc : CR I w p o n L f) : mj_R D_X9_count [.inr (some 0), .inl (nI 15)] (mj_w I) (mj_ex (some (.inl (nI n))) I) := by
  have m0 := s_0
  have m1 := s_1
  have m2 := s_2
  have m4 := mj_S4.1
  have m5 := mj_B5.1
  have m6 : mj_sh 6 = (2, 3) := mj_B5.2.1
  have m52 := s_52
  have hR : RB I 5 w := hc.1.1
  have hI : IV w := hc.1.2.1
  refine mj_enter (by decide +kernel) (Nat.le_of_ble_eq_true rfl) ?_
  refine J_ild S_X9_count rfl rfl ?_
  refine J_if S_X9_count rfl (fun c1 => False.elim (absurd c1 (by decide))) (fun c1 => ?_)
  refine J_ild S_X9_count rfl rfl ?_
  refine J_C S_X9_count rfl ?_
  refine J_cmp S_X9_count rfl (fun c7 => ?_) (fun c7 => False.elim (c7 (by decide)))
  refine J_ald S_X9_count rfl rfl ?_
  refine J_getR S_X9_count rfl (o' := 4) (by assumption) (by omega) rfl ?_
  refine J_getR S_X9_count rfl (o' := 5) (by assumption) (by omega) rfl ?_
  refine J_ast S_X9_count rfl rfl ?_
  refine J_ild S_X9_count rfl rfl ?_
  refine J_sw S_X9_count rfl ⟨fun c => False.elim (by revert c; decide), fun _ => ⟨fun c => False.elim (by revert c; decide), fun _ => ⟨fun c => False.elim (by revert c; decide), fun _ => ⟨fun c => False.elim (by revert c; decide), fun _ => ⟨fun c => False.elim (by revert c; decide), fun _ => ⟨fun c => False.elim (by revert c; decide), fun _ => ⟨fun c => False.elim (by revert c; decide), fun _ => ⟨fun c => False.elim (by revert c; decide), fun _ => ⟨fun c => False.elim (by revert c; decide), fun _ => ⟨fun c => False.elim (by revert c; decide), fun _ => ⟨fun c => False.elim (by revert c; decide), fun _ => ⟨fun c => False.elim (by revert c; decide), fun _ => ⟨fun c => False.elim (by revert c; decide), fun _ => ⟨fun c => False.elim (by revert c; decide), fun _ => ⟨fun c => False.elim (by revert c; decide), fun _ => ⟨fun _ => ?_, fun c => False.elim (by revert c; decide)⟩⟩⟩⟩⟩⟩⟩⟩⟩⟩⟩⟩⟩⟩⟩⟩
  refine J_ald S_X9_count rfl rfl ?_
  refine J_getR S_X9_count rfl (o' := 52) (by assumption) (by omega) rfl ?_
  refine J_getI S_X9_count rfl (by assumption) (by omega) ?_
  refine J_retI S_X9_count rfl ?_
  rw [hc.2.1.2.1]; exact ⟨rfl, rfl⟩
theorem X9_count_16 {w p : mv} {f : Nat → Int32} {o n L : Nat} (hc : CR I w p o n L f) : mj_R D_X9_count [.inr (some 0), .inl (nI 16)] (mj_w I) (mj_ex (some (.inl (nI L))) I) := by
  have m0 := s_0
  have m1 := s_1
  have m2 := s_2
  have m4 := mj_S4.1
  have m5 := mj_B5.1
  have m6 : mj_sh 6 = (2, 3) := mj_B5.2.1
  have m52 := s_52
  have hR : RB I 5 w := hc.1.1
  have hI : IV w := hc.1.2.1
  refine mj_enter (by decide +kernel) (Nat.le_of_ble_eq_true rfl) ?_
  refine J_ild S_X9_count rfl rfl ?_
  refine J_if S_X9_count rfl (fun c1 => False.elim (absurd c1 (by decide))) (fun c1 => ?_)
  refine J_ild S_X9_count rfl rfl ?_
  refine J_C S_X9_count rfl ?_
  refine J_cmp S_X9_count rfl (fun c7 => ?_) (fun c7 => False.elim (c7 (by decide)))
  refine J_ald S_X9_count rfl rfl ?_
  refine J_getR S_X9_count rfl (o' := 4) (by assumption) (by omega) rfl ?_
  refine J_getR S_X9_count rfl (o' := 5) (by assumption) (by omega) rfl ?_
  refine J_ast S_X9_count rfl rfl ?_
  refine J_ild S_X9_count rfl rfl ?_
  refine J_sw S_X9_count rfl ⟨fun c => False.elim (by revert c; decide), fun _ => ⟨fun c => False.elim (by revert c; decide), fun _ => ⟨fun c => False.elim (by revert c; decide), fun _ => ⟨fun c => False.elim (by revert c; decide), fun _ => ⟨fun c => False.elim (by revert c; decide), fun _ => ⟨fun c => False.elim (by revert c; decide), fun _ => ⟨fun c => False.elim (by revert c; decide), fun _ => ⟨fun c => False.elim (by revert c; decide), fun _ => ⟨fun c => False.elim (by revert c; decide), fun _ => ⟨fun c => False.elim (by revert c; decide), fun _ => ⟨fun c => False.elim (by revert c; decide), fun _ => ⟨fun c => False.elim (by revert c; decide), fun _ => ⟨fun c => False.elim (by revert c; decide), fun _ => ⟨fun c => False.elim (by revert c; decide), fun _ => ⟨fun c => False.elim (by revert c; decide), fun _ => ⟨fun c => False.elim (by revert c; decide), fun _ => ⟨fun _ => ?_, fun c => False.elim (by revert c; decide)⟩⟩⟩⟩⟩⟩⟩⟩⟩⟩⟩⟩⟩⟩⟩⟩⟩
  refine J_ald S_X9_count rfl rfl ?_
  refine J_getR S_X9_count rfl (o' := 1) (by assumption) (by omega) rfl ?_
  refine J_getR S_X9_count rfl (o' := 2) (by assumption) (by omega) rfl ?_
  refine J_getI S_X9_count rfl (by assumption) (by omega) ?_
  refine J_retI S_X9_count rfl ?_
  rw [hc.2.2.2.1]; exact ⟨rfl, rfl⟩
theorem X9_count_17 {w p : mv} {f : Nat → Int32} {o n L : Nat} (hc : CR I w p o n L f) : mj_R D_X9_count [.inr (some 0), .inl (nI 17)] (mj_w I) (mj_ex (some (.inl (w 9))) I) := by
  have m0 := s_0
  have m1 := s_1
  have m2 := s_2
  have m4 := mj_S4.1
  have m5 := mj_B5.1
  have m6 : mj_sh 6 = (2, 3) := mj_B5.2.1
  have m52 := s_52
  have hR : RB I 5 w := hc.1.1
  have hI : IV w := hc.1.2.1
  refine mj_enter (by decide +kernel) (Nat.le_of_ble_eq_true rfl) ?_
  refine J_ild S_X9_count rfl rfl ?_
  refine J_if S_X9_count rfl (fun c1 => False.elim (absurd c1 (by decide))) (fun c1 => ?_)
  refine J_ild S_X9_count rfl rfl ?_
  refine J_C S_X9_count rfl ?_
  refine J_cmp S_X9_count rfl (fun c7 => ?_) (fun c7 => False.elim (c7 (by decide)))
  refine J_ald S_X9_count rfl rfl ?_
  refine J_getR S_X9_count rfl (o' := 4) (by assumption) (by omega) rfl ?_
  refine J_getR S_X9_count rfl (o' := 5) (by assumption) (by omega) rfl ?_
  refine J_ast S_X9_count rfl rfl ?_
  refine J_ild S_X9_count rfl rfl ?_
  refine J_sw S_X9_count rfl ⟨fun c => False.elim (by revert c; decide), fun _ => ⟨fun c => False.elim (by revert c; decide), fun _ => ⟨fun c => False.elim (by revert c; decide), fun _ => ⟨fun c => False.elim (by revert c; decide), fun _ => ⟨fun c => False.elim (by revert c; decide), fun _ => ⟨fun c => False.elim (by revert c; decide), fun _ => ⟨fun c => False.elim (by revert c; decide), fun _ => ⟨fun c => False.elim (by revert c; decide), fun _ => ⟨fun c => False.elim (by revert c; decide), fun _ => ⟨fun c => False.elim (by revert c; decide), fun _ => ⟨fun c => False.elim (by revert c; decide), fun _ => ⟨fun c => False.elim (by revert c; decide), fun _ => ⟨fun c => False.elim (by revert c; decide), fun _ => ⟨fun c => False.elim (by revert c; decide), fun _ => ⟨fun c => False.elim (by revert c; decide), fun _ => ⟨fun c => False.elim (by revert c; decide), fun _ => ⟨fun c => False.elim (by revert c; decide), fun _ => ?_⟩⟩⟩⟩⟩⟩⟩⟩⟩⟩⟩⟩⟩⟩⟩⟩⟩
  refine J_ald S_X9_count rfl rfl ?_
  refine J_ild S_X9_count rfl rfl ?_
  refine J_C S_X9_count rfl ?_
  refine J_bin S_X9_count rfl ?_
  rw [show nI 17 - 17 = nI 0 by decide]
  refine J_CVx S_X9_count rfl rfl (by assumption) (by omega) (by simp) (C_X0_setting mj_B5 (i := 0) (by decide)) rfl ?_
  refine J_retI S_X9_count rfl ?_
  rw [show I (5 + 5) 0 = w 9 from hR.2.2.1 0 (by decide)]; exact ⟨rfl, rfl⟩
theorem X9_count_18 {w p : mv} {f : Nat → Int32} {o n L : Nat} (hc : CR I w p o n L f) : mj_R D_X9_count [.inr (some 0), .inl (nI 18)] (mj_w I) (mj_ex (some (.inl (w 10))) I) := by
  have m0 := s_0
  have m1 := s_1
  have m2 := s_2
  have m4 := mj_S4.1
  have m5 := mj_B5.1
  have m6 : mj_sh 6 = (2, 3) := mj_B5.2.1
  have m52 := s_52
  have hR : RB I 5 w := hc.1.1
  have hI : IV w := hc.1.2.1
  refine mj_enter (by decide +kernel) (Nat.le_of_ble_eq_true rfl) ?_
  refine J_ild S_X9_count rfl rfl ?_
  refine J_if S_X9_count rfl (fun c1 => False.elim (absurd c1 (by decide))) (fun c1 => ?_)
  refine J_ild S_X9_count rfl rfl ?_
  refine J_C S_X9_count rfl ?_
  refine J_cmp S_X9_count rfl (fun c7 => ?_) (fun c7 => False.elim (c7 (by decide)))
  refine J_ald S_X9_count rfl rfl ?_
  refine J_getR S_X9_count rfl (o' := 4) (by assumption) (by omega) rfl ?_
  refine J_getR S_X9_count rfl (o' := 5) (by assumption) (by omega) rfl ?_
  refine J_ast S_X9_count rfl rfl ?_
  refine J_ild S_X9_count rfl rfl ?_
  refine J_sw S_X9_count rfl ⟨fun c => False.elim (by revert c; decide), fun _ => ⟨fun c => False.elim (by revert c; decide), fun _ => ⟨fun c => False.elim (by revert c; decide), fun _ => ⟨fun c => False.elim (by revert c; decide), fun _ => ⟨fun c => False.elim (by revert c; decide), fun _ => ⟨fun c => False.elim (by revert c; decide), fun _ => ⟨fun c => False.elim (by revert c; decide), fun _ => ⟨fun c => False.elim (by revert c; decide), fun _ => ⟨fun c => False.elim (by revert c; decide), fun _ => ⟨fun c => False.elim (by revert c; decide), fun _ => ⟨fun c => False.elim (by revert c; decide), fun _ => ⟨fun c => False.elim (by revert c; decide), fun _ => ⟨fun c => False.elim (by revert c; decide), fun _ => ⟨fun c => False.elim (by revert c; decide), fun _ => ⟨fun c => False.elim (by revert c; decide), fun _ => ⟨fun c => False.elim (by revert c; decide), fun _ => ⟨fun c => False.elim (by revert c; decide), fun _ => ?_⟩⟩⟩⟩⟩⟩⟩⟩⟩⟩⟩⟩⟩⟩⟩⟩⟩
  refine J_ald S_X9_count rfl rfl ?_
  refine J_ild S_X9_count rfl rfl ?_
  refine J_C S_X9_count rfl ?_
  refine J_bin S_X9_count rfl ?_
  rw [show nI 18 - 17 = nI 1 by decide]
  refine J_CVx S_X9_count rfl rfl (by assumption) (by omega) (by simp) (C_X0_setting mj_B5 (i := 1) (by decide)) rfl ?_
  refine J_retI S_X9_count rfl ?_
  rw [show I (5 + 5) 1 = w 10 from hR.2.2.1 1 (by decide)]; exact ⟨rfl, rfl⟩
theorem X9_count_19 {w p : mv} {f : Nat → Int32} {o n L : Nat} (hc : CR I w p o n L f) : mj_R D_X9_count [.inr (some 0), .inl (nI 19)] (mj_w I) (mj_ex (some (.inl (w 11))) I) := by
  have m0 := s_0
  have m1 := s_1
  have m2 := s_2
  have m4 := mj_S4.1
  have m5 := mj_B5.1
  have m6 : mj_sh 6 = (2, 3) := mj_B5.2.1
  have m52 := s_52
  have hR : RB I 5 w := hc.1.1
  have hI : IV w := hc.1.2.1
  refine mj_enter (by decide +kernel) (Nat.le_of_ble_eq_true rfl) ?_
  refine J_ild S_X9_count rfl rfl ?_
  refine J_if S_X9_count rfl (fun c1 => False.elim (absurd c1 (by decide))) (fun c1 => ?_)
  refine J_ild S_X9_count rfl rfl ?_
  refine J_C S_X9_count rfl ?_
  refine J_cmp S_X9_count rfl (fun c7 => ?_) (fun c7 => False.elim (c7 (by decide)))
  refine J_ald S_X9_count rfl rfl ?_
  refine J_getR S_X9_count rfl (o' := 4) (by assumption) (by omega) rfl ?_
  refine J_getR S_X9_count rfl (o' := 5) (by assumption) (by omega) rfl ?_
  refine J_ast S_X9_count rfl rfl ?_
  refine J_ild S_X9_count rfl rfl ?_
  refine J_sw S_X9_count rfl ⟨fun c => False.elim (by revert c; decide), fun _ => ⟨fun c => False.elim (by revert c; decide), fun _ => ⟨fun c => False.elim (by revert c; decide), fun _ => ⟨fun c => False.elim (by revert c; decide), fun _ => ⟨fun c => False.elim (by revert c; decide), fun _ => ⟨fun c => False.elim (by revert c; decide), fun _ => ⟨fun c => False.elim (by revert c; decide), fun _ => ⟨fun c => False.elim (by revert c; decide), fun _ => ⟨fun c => False.elim (by revert c; decide), fun _ => ⟨fun c => False.elim (by revert c; decide), fun _ => ⟨fun c => False.elim (by revert c; decide), fun _ => ⟨fun c => False.elim (by revert c; decide), fun _ => ⟨fun c => False.elim (by revert c; decide), fun _ => ⟨fun c => False.elim (by revert c; decide), fun _ => ⟨fun c => False.elim (by revert c; decide), fun _ => ⟨fun c => False.elim (by revert c; decide), fun _ => ⟨fun c => False.elim (by revert c; decide), fun _ => ?_⟩⟩⟩⟩⟩⟩⟩⟩⟩⟩⟩⟩⟩⟩⟩⟩⟩
  refine J_ald S_X9_count rfl rfl ?_
  refine J_ild S_X9_count rfl rfl ?_
  refine J_C S_X9_count rfl ?_
  refine J_bin S_X9_count rfl ?_
  rw [show nI 19 - 17 = nI 2 by decide]
  refine J_CVx S_X9_count rfl rfl (by assumption) (by omega) (by simp) (C_X0_setting mj_B5 (i := 2) (by decide)) rfl ?_
  refine J_retI S_X9_count rfl ?_
  rw [show I (5 + 5) 2 = w 11 from hR.2.2.1 2 (by decide)]; exact ⟨rfl, rfl⟩
theorem X9_count_20 {w p : mv} {f : Nat → Int32} {o n L : Nat} (hc : CR I w p o n L f) : mj_R D_X9_count [.inr (some 0), .inl (nI 20)] (mj_w I) (mj_ex (some (.inl (w 12))) I) := by
  have m0 := s_0
  have m1 := s_1
  have m2 := s_2
  have m4 := mj_S4.1
  have m5 := mj_B5.1
  have m6 : mj_sh 6 = (2, 3) := mj_B5.2.1
  have m52 := s_52
  have hR : RB I 5 w := hc.1.1
  have hI : IV w := hc.1.2.1
  refine mj_enter (by decide +kernel) (Nat.le_of_ble_eq_true rfl) ?_
  refine J_ild S_X9_count rfl rfl ?_
  refine J_if S_X9_count rfl (fun c1 => False.elim (absurd c1 (by decide))) (fun c1 => ?_)
  refine J_ild S_X9_count rfl rfl ?_
  refine J_C S_X9_count rfl ?_
  refine J_cmp S_X9_count rfl (fun c7 => ?_) (fun c7 => False.elim (c7 (by decide)))
  refine J_ald S_X9_count rfl rfl ?_
  refine J_getR S_X9_count rfl (o' := 4) (by assumption) (by omega) rfl ?_
  refine J_getR S_X9_count rfl (o' := 5) (by assumption) (by omega) rfl ?_
  refine J_ast S_X9_count rfl rfl ?_
  refine J_ild S_X9_count rfl rfl ?_
  refine J_sw S_X9_count rfl ⟨fun c => False.elim (by revert c; decide), fun _ => ⟨fun c => False.elim (by revert c; decide), fun _ => ⟨fun c => False.elim (by revert c; decide), fun _ => ⟨fun c => False.elim (by revert c; decide), fun _ => ⟨fun c => False.elim (by revert c; decide), fun _ => ⟨fun c => False.elim (by revert c; decide), fun _ => ⟨fun c => False.elim (by revert c; decide), fun _ => ⟨fun c => False.elim (by revert c; decide), fun _ => ⟨fun c => False.elim (by revert c; decide), fun _ => ⟨fun c => False.elim (by revert c; decide), fun _ => ⟨fun c => False.elim (by revert c; decide), fun _ => ⟨fun c => False.elim (by revert c; decide), fun _ => ⟨fun c => False.elim (by revert c; decide), fun _ => ⟨fun c => False.elim (by revert c; decide), fun _ => ⟨fun c => False.elim (by revert c; decide), fun _ => ⟨fun c => False.elim (by revert c; decide), fun _ => ⟨fun c => False.elim (by revert c; decide), fun _ => ?_⟩⟩⟩⟩⟩⟩⟩⟩⟩⟩⟩⟩⟩⟩⟩⟩⟩
  refine J_ald S_X9_count rfl rfl ?_
  refine J_ild S_X9_count rfl rfl ?_
  refine J_C S_X9_count rfl ?_
  refine J_bin S_X9_count rfl ?_
  rw [show nI 20 - 17 = nI 3 by decide]
  refine J_CVx S_X9_count rfl rfl (by assumption) (by omega) (by simp) (C_X0_setting mj_B5 (i := 3) (by decide)) rfl ?_
  refine J_retI S_X9_count rfl ?_
  rw [show I (5 + 5) 3 = w 12 from hR.2.2.1 3 (by decide)]; exact ⟨rfl, rfl⟩
theorem X9_count_21 {w p : mv} {f : Nat → Int32} {o n L : Nat} (hc : CR I w p o n L f) : mj_R D_X9_count [.inr (some 0), .inl (nI 21)] (mj_w I) (mj_ex (some (.inl (w 13))) I) := by
  have m0 := s_0
  have m1 := s_1
  have m2 := s_2
  have m4 := mj_S4.1
  have m5 := mj_B5.1
  have m6 : mj_sh 6 = (2, 3) := mj_B5.2.1
  have m52 := s_52
  have hR : RB I 5 w := hc.1.1
  have hI : IV w := hc.1.2.1
  refine mj_enter (by decide +kernel) (Nat.le_of_ble_eq_true rfl) ?_
  refine J_ild S_X9_count rfl rfl ?_
  refine J_if S_X9_count rfl (fun c1 => False.elim (absurd c1 (by decide))) (fun c1 => ?_)
  refine J_ild S_X9_count rfl rfl ?_
  refine J_C S_X9_count rfl ?_
  refine J_cmp S_X9_count rfl (fun c7 => ?_) (fun c7 => False.elim (c7 (by decide)))
  refine J_ald S_X9_count rfl rfl ?_
  refine J_getR S_X9_count rfl (o' := 4) (by assumption) (by omega) rfl ?_
  refine J_getR S_X9_count rfl (o' := 5) (by assumption) (by omega) rfl ?_
  refine J_ast S_X9_count rfl rfl ?_
  refine J_ild S_X9_count rfl rfl ?_
  refine J_sw S_X9_count rfl ⟨fun c => False.elim (by revert c; decide), fun _ => ⟨fun c => False.elim (by revert c; decide), fun _ => ⟨fun c => False.elim (by revert c; decide), fun _ => ⟨fun c => False.elim (by revert c; decide), fun _ => ⟨fun c => False.elim (by revert c; decide), fun _ => ⟨fun c => False.elim (by revert c; decide), fun _ => ⟨fun c => False.elim (by revert c; decide), fun _ => ⟨fun c => False.elim (by revert c; decide), fun _ => ⟨fun c => False.elim (by revert c; decide), fun _ => ⟨fun c => False.elim (by revert c; decide), fun _ => ⟨fun c => False.elim (by revert c; decide), fun _ => ⟨fun c => False.elim (by revert c; decide), fun _ => ⟨fun c => False.elim (by revert c; decide), fun _ => ⟨fun c => False.elim (by revert c; decide), fun _ => ⟨fun c => False.elim (by revert c; decide), fun _ => ⟨fun c => False.elim (by revert c; decide), fun _ => ⟨fun c => False.elim (by revert c; decide), fun _ => ?_⟩⟩⟩⟩⟩⟩⟩⟩⟩⟩⟩⟩⟩⟩⟩⟩⟩
  refine J_ald S_X9_count rfl rfl ?_
  refine J_ild S_X9_count rfl rfl ?_
  refine J_C S_X9_count rfl ?_
  refine J_bin S_X9_count rfl ?_
  rw [show nI 21 - 17 = nI 4 by decide]
  refine J_CVx S_X9_count rfl rfl (by assumption) (by omega) (by simp) (C_X0_setting mj_B5 (i := 4) (by decide)) rfl ?_
  refine J_retI S_X9_count rfl ?_
  rw [show I (5 + 5) 4 = w 13 from hR.2.2.1 4 (by decide)]; exact ⟨rfl, rfl⟩
theorem X9_count_22 {w p : mv} {f : Nat → Int32} {o n L : Nat} (hc : CR I w p o n L f) : mj_R D_X9_count [.inr (some 0), .inl (nI 22)] (mj_w I) (mj_ex (some (.inl (w 14))) I) := by
  have m0 := s_0
  have m1 := s_1
  have m2 := s_2
  have m4 := mj_S4.1
  have m5 := mj_B5.1
  have m6 : mj_sh 6 = (2, 3) := mj_B5.2.1
  have m52 := s_52
  have hR : RB I 5 w := hc.1.1
  have hI : IV w := hc.1.2.1
  refine mj_enter (by decide +kernel) (Nat.le_of_ble_eq_true rfl) ?_
  refine J_ild S_X9_count rfl rfl ?_
  refine J_if S_X9_count rfl (fun c1 => False.elim (absurd c1 (by decide))) (fun c1 => ?_)
  refine J_ild S_X9_count rfl rfl ?_
  refine J_C S_X9_count rfl ?_
  refine J_cmp S_X9_count rfl (fun c7 => ?_) (fun c7 => False.elim (c7 (by decide)))
  refine J_ald S_X9_count rfl rfl ?_
  refine J_getR S_X9_count rfl (o' := 4) (by assumption) (by omega) rfl ?_
  refine J_getR S_X9_count rfl (o' := 5) (by assumption) (by omega) rfl ?_
  refine J_ast S_X9_count rfl rfl ?_
  refine J_ild S_X9_count rfl rfl ?_
  refine J_sw S_X9_count rfl ⟨fun c => False.elim (by revert c; decide), fun _ => ⟨fun c => False.elim (by revert c; decide), fun _ => ⟨fun c => False.elim (by revert c; decide), fun _ => ⟨fun c => False.elim (by revert c; decide), fun _ => ⟨fun c => False.elim (by revert c; decide), fun _ => ⟨fun c => False.elim (by revert c; decide), fun _ => ⟨fun c => False.elim (by revert c; decide), fun _ => ⟨fun c => False.elim (by revert c; decide), fun _ => ⟨fun c => False.elim (by revert c; decide), fun _ => ⟨fun c => False.elim (by revert c; decide), fun _ => ⟨fun c => False.elim (by revert c; decide), fun _ => ⟨fun c => False.elim (by revert c; decide), fun _ => ⟨fun c => False.elim (by revert c; decide), fun _ => ⟨fun c => False.elim (by revert c; decide), fun _ => ⟨fun c => False.elim (by revert c; decide), fun _ => ⟨fun c => False.elim (by revert c; decide), fun _ => ⟨fun c => False.elim (by revert c; decide), fun _ => ?_⟩⟩⟩⟩⟩⟩⟩⟩⟩⟩⟩⟩⟩⟩⟩⟩⟩
  refine J_ald S_X9_count rfl rfl ?_
  refine J_ild S_X9_count rfl rfl ?_
  refine J_C S_X9_count rfl ?_
  refine J_bin S_X9_count rfl ?_
  rw [show nI 22 - 17 = nI 5 by decide]
  refine J_CVx S_X9_count rfl rfl (by assumption) (by omega) (by simp) (C_X0_setting mj_B5 (i := 5) (by decide)) rfl ?_
  refine J_retI S_X9_count rfl ?_
  rw [show I (5 + 5) 5 = w 14 from hR.2.2.1 5 (by decide)]; exact ⟨rfl, rfl⟩
end P6
