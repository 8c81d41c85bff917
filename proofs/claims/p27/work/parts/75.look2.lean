section P7
variable {I : mj_I}
/-- a place of the log -/
theorem pl_n {v : mv} (hI : IV v) {a : Int32} (h : 0 ≤ a ∧ a ≤ v 0) : ∃ j, j ≤ tn (v 0) ∧ a = nI j := by
  obtain ⟨h1, h2⟩ := h
  rw [hI.1.1] at h2
  exact i_rng (by have := hI.1.2; omega) h1 h2
/-! value -/
theorem lg_tab {v : mv} (hR : RB I 5 v) {c : Nat} (hI : IV v) (hc : c < 24) : ∀ n, n ≤ tn (v 0) → lg_at I 5 (nI c) n = tabv v c n
  | 0, _ => rfl
  | n + 1, h => by
    have h1 := hR.2.2.2.1 n (by omega)
    have hcl := hI.cl_lt (j := n) (by omega)
    rw [lg_at, tabv, h1.1, h1.2, lg_tab hR hI hc n (by omega)]
    by_cases e : cl v n = c
    · rw [if_pos e, if_pos (by rw [e])]
    · rw [if_neg e, if_neg (fun g => e ((nI_eq (by omega) (by omega)).mp g))]
/-! change -/
theorem sub1 {v : mv} (hI : IV v) {a : Int32} : (0 ≤ a ∧ a ≤ v 0 - 1) ↔ (0 ≤ a ∧ a < v 0) := by
  have h0 := hI.1
  rw [h0.1]
  have hle := h0.2
  generalize tn (v 0) = N at *
  have e : (nI N - 1).toInt = (N : Int) - 1 := by
    rw [show (1 : Int32) = nI 1 from rfl]
    exact pk_sub_toInt (by omega) (by decide)
  rw [fa_le a (nI N - 1), e, fa_lt a (nI N), nI_toInt (by omega)]
  exact ⟨fun h => ⟨h.1, by have := h.2; omega⟩, fun h => ⟨h.1, by have := h.2; omega⟩⟩
theorem X9_change_no {w : mv} (hR : RB I 5 w) {a b : Int32} (h : ¬ ((0 ≤ a ∧ a < w 0) ∧ (0 ≤ b ∧ b ≤ 3))) : mj_R D_X9_change [.inr (some 0), .inl a, .inl b] (mj_w I) (mj_ex (some (.inl (-100000001))) I) := by
  have m0 := s_0
  have m4 := mj_S4.1
  have m5 := mj_B5.1
  have m6 : mj_sh 6 = (2, 3) := mj_B5.2.1
  have e0 : I 6 2 = w 0 := hR.1
  refine mj_enter (by decide +kernel) (Nat.le_of_ble_eq_true rfl) ?_
  refine J_ald S_X9_change rfl rfl ?_
  refine J_getR S_X9_change rfl (o' := 4) (by assumption) (by omega) rfl ?_
  refine J_getR S_X9_change rfl (o' := 5) (by assumption) (by omega) rfl ?_
  refine J_getR S_X9_change rfl (o' := 6) (by assumption) (by omega) rfl ?_
  refine J_ast S_X9_change rfl rfl ?_
  refine J_ild S_X9_change rfl rfl ?_
  refine J_if S_X9_change rfl (fun c12 => ?_) (fun c12 => ?_)
  · refine J_C S_X9_change rfl ?_
    refine J_retI S_X9_change rfl ?_
    exact ⟨rfl, rfl⟩
  · refine J_ild S_X9_change rfl rfl ?_
    refine J_ald S_X9_change rfl rfl ?_
    refine J_getI S_X9_change rfl (by assumption) (by omega) ?_
    rw [e0]
    refine J_cmp S_X9_change rfl (fun c20 => ?_) (fun c20 => ?_)
    · refine J_C S_X9_change rfl ?_
      refine J_retI S_X9_change rfl ?_
      exact ⟨rfl, rfl⟩
    · refine J_ild S_X9_change rfl rfl ?_
      refine J_if S_X9_change rfl (fun c24 => ?_) (fun c24 => ?_)
      · refine J_C S_X9_change rfl ?_
        refine J_retI S_X9_change rfl ?_
        exact ⟨rfl, rfl⟩
      · refine J_ild S_X9_change rfl rfl ?_
        refine J_C S_X9_change rfl ?_
        refine J_cmp S_X9_change rfl (fun c29 => ?_) (fun c29 => ?_)
        · exact absurd ⟨⟨Int32.not_lt.mp c12, Int32.not_le.mp c20⟩, Int32.not_lt.mp c24, c29⟩ h
        · refine J_C S_X9_change rfl ?_
          refine J_retI S_X9_change rfl ?_
          exact ⟨rfl, rfl⟩
def chV (v : mv) (j b : Nat) : Int32 := if b = 3 then nI (msk (fun k => ex v k && cs v k (cl v j)) 8) else v (15 + 3 * j + b)
theorem cl_dm {v : mv} (hI : IV v) {j : Nat} (hj : j < tn (v 0)) : nI (cl v j) / 12 = v (15 + 3 * j) ∧ nI (cl v j) - nI (cl v j) / 12 * 12 = v (16 + 3 * j) := by
  obtain ⟨h1, h2, -⟩ := hI.2.2.2.2.1 j hj
  have l1 := h1.2
  have l2 := h2.2
  have ec : cl v j = 12 * tn (v (15 + 3 * j)) + tn (v (16 + 3 * j)) := rfl
  have hb := hI.cl_lt hj
  refine ⟨?_, ?_⟩
  · rw [show (12 : Int32) = nI 12 from rfl, pk_div (by omega) (by decide) (by decide), show cl v j / 12 = tn (v (15 + 3 * j)) by omega]
    exact h1.1.symm
  · rw [show (12 : Int32) = nI 12 from rfl, pk_rem (by omega) (by decide) (by decide), show cl v j % 12 = tn (v (16 + 3 * j)) by omega]
    exact h2.1.symm
theorem X9_change_ok {w : mv} (hR : RB I 5 w) (hI : IV w) {j b : Nat} (hj : j < tn (w 0)) (hb : b ≤ 3) : mj_R D_X9_change [.inr (some 0), .inl (nI j), .inl (nI b)] (mj_w I) (mj_ex (some (.inl (chV w j b))) I) := by
  have m0 := s_0
  have m4 := mj_S4.1
  have m5 := mj_B5.1
  have m6 : mj_sh 6 = (2, 3) := mj_B5.2.1
  have e0 : I 6 2 = nI (tn (w 0)) := by rw [← hI.1.1]; exact hR.1
  have hle := hI.1.2
  obtain ⟨e1, e2⟩ := hR.2.2.2.1 j hj
  obtain ⟨d1, d2⟩ := cl_dm hI hj
  have hce := C_X2_cell (I := I) mj_B5 (j := j) (by omega)
  rw [e1] at hce
  have hnv := C_X2_newValue (I := I) mj_B5 (j := j) (by omega)
  rw [e2] at hnv
  have hcb := C_X0_concernedBy (I := I) mj_B5 hR hI (hI.cl_lt hj)
  refine mj_enter (by decide +kernel) (Nat.le_of_ble_eq_true rfl) ?_
  unfold chV
  rcases (show b = 0 ∨ b = 1 ∨ b = 2 ∨ b = 3 by omega) with rfl | rfl | rfl | rfl
  · refine J_ald S_X9_change rfl rfl ?_
    refine J_getR S_X9_change rfl (o' := 4) (by assumption) (by omega) rfl ?_
    refine J_getR S_X9_change rfl (o' := 5) (by assumption) (by omega) rfl ?_
    refine J_getR S_X9_change rfl (o' := 6) (by assumption) (by omega) rfl ?_
    refine J_ast S_X9_change rfl rfl ?_
    refine J_ild S_X9_change rfl rfl ?_
    refine J_if S_X9_change rfl (fun c12 => False.elim (nI_pos (by omega) c12)) (fun c12 => ?_)
    refine J_ild S_X9_change rfl rfl ?_
    refine J_ald S_X9_change rfl rfl ?_
    refine J_getI S_X9_change rfl (by assumption) (by omega) ?_
    rw [e0]
    refine J_cmp S_X9_change rfl (fun c20 => False.elim (nI_ge hj (by omega) c20)) (fun c20 => ?_)
    refine J_ild S_X9_change rfl rfl ?_
    refine J_if S_X9_change rfl (fun c24 => False.elim (absurd c24 (by decide))) (fun c24 => ?_)
    refine J_ild S_X9_change rfl rfl ?_
    refine J_C S_X9_change rfl ?_
    refine J_cmp S_X9_change rfl (fun c29 => ?_) (fun c29 => False.elim (c29 (by decide)))
    refine J_ald S_X9_change rfl rfl ?_
    refine J_ild S_X9_change rfl rfl ?_
    refine J_CVx S_X9_change rfl rfl (by assumption) (by omega) (by simp) (hce) rfl ?_
    refine J_ist S_X9_change rfl rfl ?_
    refine J_ild S_X9_change rfl rfl ?_
    refine J_sw S_X9_change rfl ⟨fun _ => ?_, fun c => False.elim (by revert c; decide)⟩
    refine J_ild S_X9_change rfl rfl ?_
    refine J_C S_X9_change rfl ?_
    refine J_div S_X9_change rfl (by decide) ?_
    refine J_retI S_X9_change rfl ?_
    rw [d1, if_neg (by decide)]; exact ⟨rfl, rfl⟩
  · refine J_ald S_X9_change rfl rfl ?_
    refine J_getR S_X9_change rfl (o' := 4) (by assumption) (by omega) rfl ?_
    refine J_getR S_X9_change rfl (o' := 5) (by assumption) (by omega) rfl ?_
    refine J_getR S_X9_change rfl (o' := 6) (by assumption) (by omega) rfl ?_
    refine J_ast S_X9_change rfl rfl ?_
    refine J_ild S_X9_change rfl rfl ?_
    refine J_if S_X9_change rfl (fun c12 => False.elim (nI_pos (by omega) c12)) (fun c12 => ?_)
    refine J_ild S_X9_change rfl rfl ?_
    refine J_ald S_X9_change rfl rfl ?_
    refine J_getI S_X9_change rfl (by assumption) (by omega) ?_
    rw [e0]
    refine J_cmp S_X9_change rfl (fun c20 => False.elim (nI_ge hj (by omega) c20)) (fun c20 => ?_)
    refine J_ild S_X9_change rfl rfl ?_
    refine J_if S_X9_change rfl (fun c24 => False.elim (absurd c24 (by decide))) (fun c24 => ?_)
    refine J_ild S_X9_change rfl rfl ?_
    refine J_C S_X9_change rfl ?_
    refine J_cmp S_X9_change rfl (fun c29 => ?_) (fun c29 => False.elim (c29 (by decide)))
    refine J_ald S_X9_change rfl rfl ?_
    refine J_ild S_X9_change rfl rfl ?_
    refine J_CVx S_X9_change rfl rfl (by assumption) (by omega) (by simp) (hce) rfl ?_
    refine J_ist S_X9_change rfl rfl ?_
    refine J_ild S_X9_change rfl rfl ?_
    refine J_sw S_X9_change rfl ⟨fun c => False.elim (by revert c; decide), fun _ => ⟨fun _ => ?_, fun c => False.elim (by revert c; decide)⟩⟩
    refine J_ild S_X9_change rfl rfl ?_
    refine J_C S_X9_change rfl ?_
    refine J_div S_X9_change rfl (by decide) ?_
    refine J_retI S_X9_change rfl ?_
    rw [d2, if_neg (by decide), show 15 + 3 * j + 1 = 16 + 3 * j by omega]; exact ⟨rfl, rfl⟩
  · refine J_ald S_X9_change rfl rfl ?_
    refine J_getR S_X9_change rfl (o' := 4) (by assumption) (by omega) rfl ?_
    refine J_getR S_X9_change rfl (o' := 5) (by assumption) (by omega) rfl ?_
    refine J_getR S_X9_change rfl (o' := 6) (by assumption) (by omega) rfl ?_
    refine J_ast S_X9_change rfl rfl ?_
    refine J_ild S_X9_change rfl rfl ?_
    refine J_if S_X9_change rfl (fun c12 => False.elim (nI_pos (by omega) c12)) (fun c12 => ?_)
    refine J_ild S_X9_change rfl rfl ?_
    refine J_ald S_X9_change rfl rfl ?_
    refine J_getI S_X9_change rfl (by assumption) (by omega) ?_
    rw [e0]
    refine J_cmp S_X9_change rfl (fun c20 => False.elim (nI_ge hj (by omega) c20)) (fun c20 => ?_)
    refine J_ild S_X9_change rfl rfl ?_
    refine J_if S_X9_change rfl (fun c24 => False.elim (absurd c24 (by decide))) (fun c24 => ?_)
    refine J_ild S_X9_change rfl rfl ?_
    refine J_C S_X9_change rfl ?_
    refine J_cmp S_X9_change rfl (fun c29 => ?_) (fun c29 => False.elim (c29 (by decide)))
    refine J_ald S_X9_change rfl rfl ?_
    refine J_ild S_X9_change rfl rfl ?_
    refine J_CVx S_X9_change rfl rfl (by assumption) (by omega) (by simp) (hce) rfl ?_
    refine J_ist S_X9_change rfl rfl ?_
    refine J_ild S_X9_change rfl rfl ?_
    refine J_sw S_X9_change rfl ⟨fun c => False.elim (by revert c; decide), fun _ => ⟨fun c => False.elim (by revert c; decide), fun _ => ⟨fun _ => ?_, fun c => False.elim (by revert c; decide)⟩⟩⟩
    refine J_ald S_X9_change rfl rfl ?_
    refine J_ild S_X9_change rfl rfl ?_
    refine J_CVx S_X9_change rfl rfl (by assumption) (by omega) (by simp) (hnv) rfl ?_
    refine J_retI S_X9_change rfl ?_
    rw [if_neg (by decide), show 15 + 3 * j + 2 = 17 + 3 * j by omega]; exact ⟨rfl, rfl⟩
  · refine J_ald S_X9_change rfl rfl ?_
    refine J_getR S_X9_change rfl (o' := 4) (by assumption) (by omega) rfl ?_
    refine J_getR S_X9_change rfl (o' := 5) (by assumption) (by omega) rfl ?_
    refine J_getR S_X9_change rfl (o' := 6) (by assumption) (by omega) rfl ?_
    refine J_ast S_X9_change rfl rfl ?_
    refine J_ild S_X9_change rfl rfl ?_
    refine J_if S_X9_change rfl (fun c12 => False.elim (nI_pos (by omega) c12)) (fun c12 => ?_)
    refine J_ild S_X9_change rfl rfl ?_
    refine J_ald S_X9_change rfl rfl ?_
    refine J_getI S_X9_change rfl (by assumption) (by omega) ?_
    rw [e0]
    refine J_cmp S_X9_change rfl (fun c20 => False.elim (nI_ge hj (by omega) c20)) (fun c20 => ?_)
    refine J_ild S_X9_change rfl rfl ?_
    refine J_if S_X9_change rfl (fun c24 => False.elim (absurd c24 (by decide))) (fun c24 => ?_)
    refine J_ild S_X9_change rfl rfl ?_
    refine J_C S_X9_change rfl ?_
    refine J_cmp S_X9_change rfl (fun c29 => ?_) (fun c29 => False.elim (c29 (by decide)))
    refine J_ald S_X9_change rfl rfl ?_
    refine J_ild S_X9_change rfl rfl ?_
    refine J_CVx S_X9_change rfl rfl (by assumption) (by omega) (by simp) (hce) rfl ?_
    refine J_ist S_X9_change rfl rfl ?_
    refine J_ild S_X9_change rfl rfl ?_
    refine J_sw S_X9_change rfl ⟨fun c => False.elim (by revert c; decide), fun _ => ⟨fun c => False.elim (by revert c; decide), fun _ => ⟨fun c => False.elim (by revert c; decide), fun _ => ?_⟩⟩⟩
    refine J_ald S_X9_change rfl rfl ?_
    refine J_getR S_X9_change rfl (o' := 4) (by assumption) (by omega) rfl ?_
    refine J_getR S_X9_change rfl (o' := 5) (by assumption) (by omega) rfl ?_
    refine J_ild S_X9_change rfl rfl ?_
    refine J_CVx S_X9_change rfl rfl (by assumption) (by omega) (by simp) (hcb) rfl ?_
    refine J_retI S_X9_change rfl ?_
    exact ⟨rfl, rfl⟩
/-! kept, ask -/
theorem sc_rp {I1 : mj_I} (h : ∀ o, o ≠ 296 → o ≠ 297 → I1 o = I o) : SC I I1 := ⟨fun q g1 _ => h q (by omega) (by omega), fun q g => h q (by omega) (by omega)⟩
theorem X9_kept_no {w : mv} (hR : RB I 5 w) (hI : IV w) {a : Int32} (h : isV w a = false) : mj_R D_X9_kept [.inr (some 0), .inl a] (mj_w I) (mj_ex (some (.inl (-100000001))) I) := by
  have m0 := s_0
  have m4 := mj_S4.1
  have m5 := mj_B5.1
  refine mj_enter (by decide +kernel) (Nat.le_of_ble_eq_true rfl) ?_
  refine J_ald S_X9_kept rfl rfl ?_
  refine J_getR S_X9_kept rfl (o' := 4) (by assumption) (by omega) rfl ?_
  refine J_getR S_X9_kept rfl (o' := 5) (by assumption) (by omega) rfl ?_
  refine J_ild S_X9_kept rfl rfl ?_
  refine J_CVx S_X9_kept rfl rfl (by assumption) (by omega) (by simp) (Z_find_n hR hI h) rfl ?_
  refine J_ast S_X9_kept rfl rfl ?_
  refine J_ald S_X9_kept rfl rfl ?_
  refine J_nnN S_X9_kept rfl ?_
  refine J_C S_X9_kept rfl ?_
  refine J_retI S_X9_kept rfl ?_
  exact ⟨rfl, rfl⟩
theorem X9_kept_ill {w : mv} (hR : RB I 5 w) (hI : IV w) {k : Nat} (hk : k < 8) (he : vk w k 4 = 1) (h : vk w k 5 = 1) : mj_R D_X9_kept [.inr (some 0), .inl (nI k)] (mj_w I) (mj_ex (some (.inl (-100000002))) I) := by
  have m0 := s_0
  have m4 := mj_S4.1
  have m5 := mj_B5.1
  have mv := vw_sh hk
  have e7 : I (5 + 7 + k) 7 = 1 := (((hR.2.2.2.2 k hk).2.2 he).2.2.2.2.2.2.1).trans h
  refine mj_enter (by decide +kernel) (Nat.le_of_ble_eq_true rfl) ?_
  refine J_ald S_X9_kept rfl rfl ?_
  refine J_getR S_X9_kept rfl (o' := 4) (by assumption) (by omega) rfl ?_
  refine J_getR S_X9_kept rfl (o' := 5) (by assumption) (by omega) rfl ?_
  refine J_ild S_X9_kept rfl rfl ?_
  refine J_CVx S_X9_kept rfl rfl (by assumption) (by omega) (by simp) (Z_find_y hR hI hk he) rfl ?_
  refine J_ast S_X9_kept rfl rfl ?_
  refine J_ald S_X9_kept rfl rfl ?_
  refine J_nnS S_X9_kept rfl ?_
  refine J_ald S_X9_kept rfl rfl ?_
  refine J_getI S_X9_kept rfl (by assumption) (by omega) ?_
  rw [e7]
  refine J_if S_X9_kept rfl (fun c23 => False.elim (absurd c23 (by decide))) (fun c23 => ?_)
  refine J_C S_X9_kept rfl ?_
  refine J_retI S_X9_kept rfl ?_
  exact ⟨rfl, rfl⟩
theorem X9_kept_ok {w : mv} (hR : RB I 5 w) (hI : IV w) {k : Nat} (hk : k < 8) (he : vk w k 4 = 1) (h : vk w k 5 = 0) : mj_R D_X9_kept [.inr (some 0), .inl (nI k)] (mj_w I) (mj_px (fun r I' => r = some (.inl (aq w (tn (vk w k 6)) k)) ∧ SC I I')) := by
  have m0 := s_0
  have m4 := mj_S4.1
  have m5 := mj_B5.1
  have m294 := s_294
  have mv := vw_sh hk
  have e7 : I (5 + 7 + k) 7 = 0 := (((hR.2.2.2.2 k hk).2.2 he).2.2.2.2.2.2.1).trans h
  have w6 := (hI.wv hk he).2.2.2.2.2.2.2.2.2.2.1
  have e8 : I (5 + 7 + k) 8 = nI (tn (vk w k 6)) := (((hR.2.2.2.2 k hk).2.2 he).2.2.2.2.2.2.2.1).trans w6.1
  have hab := C_X4_answerByTables (I := I) mj_B5 hR hI (by omega) hk he w6.2
  refine mj_enter (by decide +kernel) (Nat.le_of_ble_eq_true rfl) ?_
  refine J_ald S_X9_kept rfl rfl ?_
  refine J_getR S_X9_kept rfl (o' := 4) (by assumption) (by omega) rfl ?_
  refine J_getR S_X9_kept rfl (o' := 5) (by assumption) (by omega) rfl ?_
  refine J_ild S_X9_kept rfl rfl ?_
  refine J_CVx S_X9_kept rfl rfl (by assumption) (by omega) (by simp) (Z_find_y hR hI hk he) rfl ?_
  refine J_ast S_X9_kept rfl rfl ?_
  refine J_ald S_X9_kept rfl rfl ?_
  refine J_nnS S_X9_kept rfl ?_
  refine J_ald S_X9_kept rfl rfl ?_
  refine J_getI S_X9_kept rfl (by assumption) (by omega) ?_
  rw [e7]
  refine J_if S_X9_kept rfl (fun c23 => ?_) (fun c23 => False.elim (c23 rfl))
  refine J_ald S_X9_kept rfl rfl ?_
  refine J_getR S_X9_kept rfl (o' := 294) (by assumption) (by omega) rfl ?_
  refine J_ald S_X9_kept rfl rfl ?_
  refine J_getR S_X9_kept rfl (o' := 4) (by assumption) (by omega) rfl ?_
  refine J_getR S_X9_kept rfl (o' := 5) (by assumption) (by omega) rfl ?_
  refine J_ild S_X9_kept rfl rfl ?_
  refine J_ald S_X9_kept rfl rfl ?_
  refine J_getI S_X9_kept rfl (by assumption) (by omega) ?_
  rw [e8]
  refine J_CV S_X9_kept rfl rfl (by assumption) (by omega) (by simp) (hab) ?_
  rintro _ _ ⟨I2, rfl, rfl, g⟩
  refine J_retI S_X9_kept rfl ?_
  exact ⟨I2, rfl, rfl, sc_rp g⟩
theorem X9_ask_no {w : mv} (hR : RB I 5 w) (hI : IV w) {a b c : Int32} (h : ¬ (isV w a = true ∧ (0 ≤ b ∧ b ≤ w 0) ∧ (c = 0 ∨ c = 1))) : mj_R D_X9_ask [.inr (some 0), .inl a, .inl b, .inl c] (mj_w I) (mj_ex (some (.inl (-100000001))) I) := by
  have m0 := s_0
  have m4 := mj_S4.1
  have m5 := mj_B5.1
  have m6 : mj_sh 6 = (2, 3) := mj_B5.2.1
  have e0 : I 6 2 = w 0 := hR.1
  refine mj_enter (by decide +kernel) (Nat.le_of_ble_eq_true rfl) ?_
  cases hv : isV w a
  · refine J_ald S_X9_ask rfl rfl ?_
    refine J_getR S_X9_ask rfl (o' := 4) (by assumption) (by omega) rfl ?_
    refine J_getR S_X9_ask rfl (o' := 5) (by assumption) (by omega) rfl ?_
    refine J_ast S_X9_ask rfl rfl ?_
    refine J_ald S_X9_ask rfl rfl ?_
    refine J_ild S_X9_ask rfl rfl ?_
    refine J_CVx S_X9_ask rfl rfl (by assumption) (by omega) (by simp) (Z_find_n hR hI hv) rfl ?_
    refine J_nuN S_X9_ask rfl ?_
    refine J_C S_X9_ask rfl ?_
    refine J_retI S_X9_ask rfl ?_
    exact ⟨rfl, rfl⟩
  · obtain ⟨k, rfl, hk, he, -⟩ := isV_y hI hv
    refine J_ald S_X9_ask rfl rfl ?_
    refine J_getR S_X9_ask rfl (o' := 4) (by assumption) (by omega) rfl ?_
    refine J_getR S_X9_ask rfl (o' := 5) (by assumption) (by omega) rfl ?_
    refine J_ast S_X9_ask rfl rfl ?_
    refine J_ald S_X9_ask rfl rfl ?_
    refine J_ild S_X9_ask rfl rfl ?_
    refine J_CVx S_X9_ask rfl rfl (by assumption) (by omega) (by simp) (Z_find_y hR hI hk he) rfl ?_
    refine J_nuS S_X9_ask rfl ?_
    refine J_ild S_X9_ask rfl rfl ?_
    refine J_if S_X9_ask rfl (fun c19 => ?_) (fun c19 => ?_)
    · refine J_C S_X9_ask rfl ?_
      refine J_retI S_X9_ask rfl ?_
      exact ⟨rfl, rfl⟩
    · refine J_ild S_X9_ask rfl rfl ?_
      refine J_ald S_X9_ask rfl rfl ?_
      refine J_getR S_X9_ask rfl (o' := 6) (by assumption) (by omega) rfl ?_
      refine J_getI S_X9_ask rfl (by assumption) (by omega) ?_
      rw [e0]
      refine J_cmp S_X9_ask rfl (fun c31 => ?_) (fun c31 => ?_)
      · refine J_C S_X9_ask rfl ?_
        refine J_retI S_X9_ask rfl ?_
        exact ⟨rfl, rfl⟩
      · refine J_ild S_X9_ask rfl rfl ?_
        refine J_if S_X9_ask rfl (fun c35 => ?_) (fun c35 => ?_)
        · exact absurd ⟨hv, ⟨Int32.not_lt.mp c19, Int32.not_lt.mp c31⟩, Or.inl c35⟩ h
        · refine J_ild S_X9_ask rfl rfl ?_
          refine J_C S_X9_ask rfl ?_
          refine J_cmp S_X9_ask rfl (fun c40 => ?_) (fun c40 => ?_)
          · exact absurd ⟨hv, ⟨Int32.not_lt.mp c19, Int32.not_lt.mp c31⟩, Or.inr c40⟩ h
          · refine J_C S_X9_ask rfl ?_
            refine J_retI S_X9_ask rfl ?_
            exact ⟨rfl, rfl⟩
theorem X9_ask_ok {w : mv} (hR : RB I 5 w) (hI : IV w) {k n : Nat} {c : Int32} (hk : k < 8) (he : vk w k 4 = 1) (hn : n ≤ tn (w 0)) (hc : c = 0 ∨ c = 1) : mj_R D_X9_ask [.inr (some 0), .inl (nI k), .inl (nI n), .inl c] (mj_w I) (mj_px (fun r I' => r = some (.inl (aq w n k)) ∧ SC I I')) := by
  have m0 := s_0
  have m4 := mj_S4.1
  have m5 := mj_B5.1
  have m6 : mj_sh 6 = (2, 3) := mj_B5.2.1
  have m294 := s_294
  have hle := hI.1.2
  have e0 : I 6 2 = nI (tn (w 0)) := by rw [← hI.1.1]; exact hR.1
  have h1 := C_X4_answerByTables (I := I) mj_B5 hR hI (by omega) hk he hn
  have h2 := C_X4_answerByChanges (I := I) mj_B5 hR hI (by omega) hk he hn
  refine mj_enter (by decide +kernel) (Nat.le_of_ble_eq_true rfl) ?_
  rcases hc with rfl | rfl
  · refine J_ald S_X9_ask rfl rfl ?_
    refine J_getR S_X9_ask rfl (o' := 4) (by assumption) (by omega) rfl ?_
    refine J_getR S_X9_ask rfl (o' := 5) (by assumption) (by omega) rfl ?_
    refine J_ast S_X9_ask rfl rfl ?_
    refine J_ald S_X9_ask rfl rfl ?_
    refine J_ild S_X9_ask rfl rfl ?_
    refine J_CVx S_X9_ask rfl rfl (by assumption) (by omega) (by simp) (Z_find_y hR hI hk he) rfl ?_
    refine J_nuS S_X9_ask rfl ?_
    refine J_ild S_X9_ask rfl rfl ?_
    refine J_if S_X9_ask rfl (fun c19 => False.elim (nI_pos (by omega) c19)) (fun c19 => ?_)
    refine J_ild S_X9_ask rfl rfl ?_
    refine J_ald S_X9_ask rfl rfl ?_
    refine J_getR S_X9_ask rfl (o' := 6) (by assumption) (by omega) rfl ?_
    refine J_getI S_X9_ask rfl (by assumption) (by omega) ?_
    rw [e0]
    refine J_cmp S_X9_ask rfl (fun c31 => False.elim (nI_nlt hn (by omega) c31)) (fun c31 => ?_)
    refine J_ild S_X9_ask rfl rfl ?_
    refine J_if S_X9_ask rfl (fun c35 => ?_) (fun c35 => False.elim (c35 rfl))
    refine J_ild S_X9_ask rfl rfl ?_
    refine J_if S_X9_ask rfl (fun c47 => False.elim (c47 rfl)) (fun c47 => ?_)
    refine J_ald S_X9_ask rfl rfl ?_
    refine J_getR S_X9_ask rfl (o' := 294) (by assumption) (by omega) rfl ?_
    refine J_ald S_X9_ask rfl rfl ?_
    refine J_ild S_X9_ask rfl rfl ?_
    refine J_ild S_X9_ask rfl rfl ?_
    refine J_CV S_X9_ask rfl rfl (by assumption) (by omega) (by simp) (h1) ?_
    rintro _ _ ⟨I2, rfl, rfl, g⟩
    refine J_goto S_X9_ask rfl ?_
    refine J_retI S_X9_ask rfl ?_
    exact ⟨I2, rfl, rfl, sc_rp g⟩
  · refine J_ald S_X9_ask rfl rfl ?_
    refine J_getR S_X9_ask rfl (o' := 4) (by assumption) (by omega) rfl ?_
    refine J_getR S_X9_ask rfl (o' := 5) (by assumption) (by omega) rfl ?_
    refine J_ast S_X9_ask rfl rfl ?_
    refine J_ald S_X9_ask rfl rfl ?_
    refine J_ild S_X9_ask rfl rfl ?_
    refine J_CVx S_X9_ask rfl rfl (by assumption) (by omega) (by simp) (Z_find_y hR hI hk he) rfl ?_
    refine J_nuS S_X9_ask rfl ?_
    refine J_ild S_X9_ask rfl rfl ?_
    refine J_if S_X9_ask rfl (fun c19 => False.elim (nI_pos (by omega) c19)) (fun c19 => ?_)
    refine J_ild S_X9_ask rfl rfl ?_
    refine J_ald S_X9_ask rfl rfl ?_
    refine J_getR S_X9_ask rfl (o' := 6) (by assumption) (by omega) rfl ?_
    refine J_getI S_X9_ask rfl (by assumption) (by omega) ?_
    rw [e0]
    refine J_cmp S_X9_ask rfl (fun c31 => False.elim (nI_nlt hn (by omega) c31)) (fun c31 => ?_)
    refine J_ild S_X9_ask rfl rfl ?_
    refine J_if S_X9_ask rfl (fun c35 => False.elim (absurd c35 (by decide))) (fun c35 => ?_)
    refine J_ild S_X9_ask rfl rfl ?_
    refine J_C S_X9_ask rfl ?_
    refine J_cmp S_X9_ask rfl (fun c40 => ?_) (fun c40 => False.elim (c40 rfl))
    refine J_ild S_X9_ask rfl rfl ?_
    refine J_if S_X9_ask rfl (fun c47 => ?_) (fun c47 => False.elim (absurd c47 (by decide)))
    refine J_ald S_X9_ask rfl rfl ?_
    refine J_getR S_X9_ask rfl (o' := 294) (by assumption) (by omega) rfl ?_
    refine J_ald S_X9_ask rfl rfl ?_
    refine J_ild S_X9_ask rfl rfl ?_
    refine J_ild S_X9_ask rfl rfl ?_
    refine J_CV S_X9_ask rfl rfl (by assumption) (by omega) (by simp) (h2) ?_
    rintro _ _ ⟨I2, rfl, rfl, g⟩
    refine J_retI S_X9_ask rfl ?_
    exact ⟨I2, rfl, rfl, sc_rp g⟩
theorem in01 {c : Int32} : (0 ≤ c ∧ c ≤ 1) ↔ (c = 0 ∨ c = 1) := by
  constructor
  · intro h
    obtain ⟨j, hj, rfl⟩ := i_rng (n := 1) (by decide) h.1 h.2
    rcases (show j = 0 ∨ j = 1 by omega) with rfl | rfl
    · exact Or.inl rfl
    · exact Or.inr rfl
  · rintro (rfl | rfl) <;> decide
end P7
