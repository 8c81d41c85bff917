def rnV (more lim : Int32) : Nat → Nat → Int32 → Int32
  | 0, _, _ => -100000009
  | n + 1, t, d => if lim < d + more then nI t else rnV more lim n (t + 1) (d + more)
theorem mj_B298 : mj_isB 298 := by unfold mj_isB; decide +kernel
def vwV (v : mv) (k j : Nat) : Int32 :=
  if j = 0 then vk v k 0 else if j = 1 then (if 3 ≤ vk v k 0 then -100000009 else vk v k 1) else if j = 2 then vk v k 2 else if j = 3 then vk v k 3 else if j = 4 then vk v k 5 else
  if j = 5 then (if vk v k 5 = 1 then -100000009 else vk v k 6) else if j = 6 then nI (arr v k) else if j = 7 then vk v k 7 else if j = 8 then need v k else vk v k 8
def smN (v : mv) : Nat → Int32
  | 0 => 0
  | n + 1 => smN v n + (if (ex v n && decide (vk v n 5 = 0)) = true then need v n else 0)
section P8
variable {I : mj_I}
/-! ruin -/
theorem X9_ruin_no {w : mv} (hR : RB I 5 w) (hI : IV w) {a : Int32} (h : isV w a = false) : mj_R D_X9_ruin [.inr (some 0), .inl a] (mj_w I) (mj_ex (some (.inl (-100000001))) I) := by
  have m0 := s_0
  have m4 := mj_S4.1
  have m5 := mj_B5.1
  refine mj_enter (by decide +kernel) (Nat.le_of_ble_eq_true rfl) ?_
  refine J_ald S_X9_ruin rfl rfl ?_
  refine J_getR S_X9_ruin rfl (o' := 4) (by assumption) (by omega) rfl ?_
  refine J_getR S_X9_ruin rfl (o' := 5) (by assumption) (by omega) rfl ?_
  refine J_ast S_X9_ruin rfl rfl ?_
  refine J_ald S_X9_ruin rfl rfl ?_
  refine J_ild S_X9_ruin rfl rfl ?_
  refine J_CVx S_X9_ruin rfl rfl (by assumption) (by omega) (by simp) (Z_find_n hR hI h) rfl ?_
  refine J_ast S_X9_ruin rfl rfl ?_
  refine J_ald S_X9_ruin rfl rfl ?_
  refine J_nnN S_X9_ruin rfl ?_
  refine J_C S_X9_ruin rfl ?_
  refine J_retI S_X9_ruin rfl ?_
  exact ⟨rfl, rfl⟩
theorem X9_ruin_ill {w : mv} (hR : RB I 5 w) (hI : IV w) {k : Nat} (hk : k < 8) (he : vk w k 4 = 1) (h : vk w k 5 = 1) : mj_R D_X9_ruin [.inr (some 0), .inl (nI k)] (mj_w I) (mj_ex (some (.inl (-100000002))) I) := by
  have m0 := s_0
  have m4 := mj_S4.1
  have m5 := mj_B5.1
  have mv := vw_sh hk
  have e7 : I (5 + 7 + k) 7 = 1 := (((hR.2.2.2.2 k hk).2.2 he).2.2.2.2.2.2.1).trans h
  refine mj_enter (by decide +kernel) (Nat.le_of_ble_eq_true rfl) ?_
  refine J_ald S_X9_ruin rfl rfl ?_
  refine J_getR S_X9_ruin rfl (o' := 4) (by assumption) (by omega) rfl ?_
  refine J_getR S_X9_ruin rfl (o' := 5) (by assumption) (by omega) rfl ?_
  refine J_ast S_X9_ruin rfl rfl ?_
  refine J_ald S_X9_ruin rfl rfl ?_
  refine J_ild S_X9_ruin rfl rfl ?_
  refine J_CVx S_X9_ruin rfl rfl (by assumption) (by omega) (by simp) (Z_find_y hR hI hk he) rfl ?_
  refine J_ast S_X9_ruin rfl rfl ?_
  refine J_ald S_X9_ruin rfl rfl ?_
  refine J_nnS S_X9_ruin rfl ?_
  refine J_ald S_X9_ruin rfl rfl ?_
  refine J_getI S_X9_ruin rfl (by assumption) (by omega) ?_
  rw [e7]
  refine J_if S_X9_ruin rfl (fun c25 => False.elim (absurd c25 (by decide))) (fun c25 => ?_)
  refine J_C S_X9_ruin rfl ?_
  refine J_retI S_X9_ruin rfl ?_
  exact ⟨rfl, rfl⟩
theorem X9_ruin_ok {w : mv} (hR : RB I 5 w) (hI : IV w) {k : Nat} (hk : k < 8) (he : vk w k 4 = 1) (h : vk w k 5 = 0) {N : Nat} (hN : N = 1000) : mj_R D_X9_ruin [.inr (some 0), .inl (nI k)] (mj_w I) (mj_ex (some (.inl (rnV (w 9 * nI (arr w k)) (w 11) N 1 (vk w k 7)))) I) := by
  have m0 := s_0
  have m4 := mj_S4.1
  have m5 := mj_B5.1
  have mv := vw_sh hk
  have e7 : I (5 + 7 + k) 7 = 0 := (((hR.2.2.2.2 k hk).2.2 he).2.2.2.2.2.2.1).trans h
  have e9 : I (5 + 7 + k) 9 = vk w k 7 := ((hR.2.2.2.2 k hk).2.2 he).2.2.2.2.2.2.2.2.1
  have e2 : I (5 + 5) 2 = w 11 := hR.2.2.1 2 (by decide)
  have hin := C_X0_interest (I := I) mj_B5 hR hI hk he
  have hst := C_X0_setting (I := I) mj_B5 (i := 2) (by decide)
  rw [e2] at hst
  generalize w 9 * nI (arr w k) = more at *
  generalize w 11 = lim at *
  generalize vk w k 7 = d0 at *
  have hend : ∀ R, (R : Int32) = rnV more lim N 1 d0 → mj_R D_X9_ruin [.inr (some 0), .inl (nI k)] (mj_w I) (mj_ex (some (.inl R)) I) := by
    intro R hRR
    refine mj_enter (by decide +kernel) (Nat.le_of_ble_eq_true rfl) ?_
    have key : ∀ (n t : Nat) (d : Int32), t + n = 1001 → R = rnV more lim n t d → mj_J D_X9_ruin (mj_ex (some (.inl R)) I) 54 [some (.inr (some 0)), some (.inl (nI k)), some (.inr (some 5)), some (.inr (some (5 + 7 + k))), some (.inl more), some (.inl lim), some (.inl d), some (.inl (nI t))] [] (mj_w I) (0, 0) := by
      intro n
      induction n with
      | zero =>
        intro t d ht hr
        rw [rnV] at hr
        subst hr
        refine J_ild S_X9_ruin rfl rfl ?_
        refine J_C S_X9_ruin rfl ?_
        refine J_cmp S_X9_ruin rfl (fun c59 => ?_) (fun c59 => False.elim (c59 (nI_lt (a := 1000) (by omega) (by omega))))
        refine J_C S_X9_ruin rfl ?_
        refine J_retI S_X9_ruin rfl ?_
        exact ⟨rfl, rfl⟩
      | succ n ih =>
        intro t d ht hr
        rw [rnV] at hr
        by_cases c : lim < d + more
        · rw [if_pos c] at hr
          subst hr
          refine J_ild S_X9_ruin rfl rfl ?_
          refine J_C S_X9_ruin rfl ?_
          refine J_cmp S_X9_ruin rfl (fun c59 => False.elim (nI_nlt (a := 1000) (by omega) (by decide) c59)) (fun c59 => ?_)
          refine J_ild S_X9_ruin rfl rfl ?_
          refine J_ild S_X9_ruin rfl rfl ?_
          refine J_bin S_X9_ruin rfl ?_
          refine J_ist S_X9_ruin rfl rfl ?_
          refine J_ild S_X9_ruin rfl rfl ?_
          refine J_ild S_X9_ruin rfl rfl ?_
          refine J_cmp S_X9_ruin rfl (fun c73 => False.elim (Int32.not_lt.mpr c73 c)) (fun c73 => ?_)
          refine J_ild S_X9_ruin rfl rfl ?_
          refine J_retI S_X9_ruin rfl ?_
          exact ⟨rfl, rfl⟩
        · rw [if_neg c] at hr
          refine J_ild S_X9_ruin rfl rfl ?_
          refine J_C S_X9_ruin rfl ?_
          refine J_cmp S_X9_ruin rfl (fun c59 => False.elim (nI_nlt (a := 1000) (by omega) (by decide) c59)) (fun c59 => ?_)
          refine J_ild S_X9_ruin rfl rfl ?_
          refine J_ild S_X9_ruin rfl rfl ?_
          refine J_bin S_X9_ruin rfl ?_
          refine J_ist S_X9_ruin rfl rfl ?_
          refine J_ild S_X9_ruin rfl rfl ?_
          refine J_ild S_X9_ruin rfl rfl ?_
          refine J_cmp S_X9_ruin rfl (fun c73 => ?_) (fun c73 => False.elim (c73 (Int32.not_lt.mp c)))
          refine J_inc S_X9_ruin rfl rfl rfl ?_
          refine J_goto S_X9_ruin rfl ?_
          rw [← nI_succ]
          exact ih (t + 1) _ (by omega) hr
    refine J_ald S_X9_ruin rfl rfl ?_
    refine J_getR S_X9_ruin rfl (o' := 4) (by assumption) (by omega) rfl ?_
    refine J_getR S_X9_ruin rfl (o' := 5) (by assumption) (by omega) rfl ?_
    refine J_ast S_X9_ruin rfl rfl ?_
    refine J_ald S_X9_ruin rfl rfl ?_
    refine J_ild S_X9_ruin rfl rfl ?_
    refine J_CVx S_X9_ruin rfl rfl (by assumption) (by omega) (by simp) (Z_find_y hR hI hk he) rfl ?_
    refine J_ast S_X9_ruin rfl rfl ?_
    refine J_ald S_X9_ruin rfl rfl ?_
    refine J_nnS S_X9_ruin rfl ?_
    refine J_ald S_X9_ruin rfl rfl ?_
    refine J_getI S_X9_ruin rfl (by assumption) (by omega) ?_
    rw [e7]
    refine J_if S_X9_ruin rfl (fun c25 => ?_) (fun c25 => False.elim (c25 rfl))
    refine J_ald S_X9_ruin rfl rfl ?_
    refine J_ald S_X9_ruin rfl rfl ?_
    refine J_CVx S_X9_ruin rfl rfl (by assumption) (by omega) (by simp) (hin) rfl ?_
    refine J_ist S_X9_ruin rfl rfl ?_
    refine J_ald S_X9_ruin rfl rfl ?_
    refine J_C S_X9_ruin rfl ?_
    refine J_CVx S_X9_ruin rfl rfl (by assumption) (by omega) (by simp) (hst) rfl ?_
    refine J_ist S_X9_ruin rfl rfl ?_
    refine J_ald S_X9_ruin rfl rfl ?_
    refine J_getI S_X9_ruin rfl (by assumption) (by omega) ?_
    rw [e9]
    refine J_ist S_X9_ruin rfl rfl ?_
    refine J_C S_X9_ruin rfl ?_
    refine J_ist S_X9_ruin rfl rfl ?_
    exact key N 1 d0 (by omega) hRR
  exact hend _ rfl
/-! needed -/
theorem need_bk {v : mv} (hZ : ZB v) {k : Nat} (hk : k < 8) (he : vk v k 4 = 1) (h : vk v k 5 = 1) : need v k = 0 := by
  unfold need arr
  rw [hZ k hk he h, if_pos h, show nI 0 = 0 from nI_0, Int32.zero_mul, Int32.add_zero]
theorem smN_sm {v : mv} (hI : IV v) (hZ : ZB v) : ∀ n, n ≤ tn (v 1) → smN v n = sm (ex v) (need v) n
  | 0, _ => rfl
  | n + 1, h => by
    have hl := hI.2.1.2
    rw [smN, sm, smN_sm hI hZ n (by omega)]
    rcases hI.b01 (show n < 8 by omega) with h4 | h4
    · rw [ex_f h4, Bool.false_and, if_neg (by decide), if_neg (by decide), Int32.add_zero]
    · rw [ex_t h4, Bool.true_and, if_pos rfl]
      rcases rg_01 (hI.wv (show n < 8 by omega) h4).2.2.2.2.2.2.2.2.2.1 with h5 | h5
      · rw [decide_eq_true h5, if_pos rfl]
      · rw [decide_eq_false (by rw [h5]; decide), if_neg (by decide), need_bk hZ (by omega) h4 h5]
theorem X9_needed_ok {w : mv} (hR : RB I 5 w) (hI : IV w) : mj_R D_X9_needed [.inr (some 0)] (mj_w I) (mj_ex (some (.inl (sm (ex w) (need w) 8))) I) := by
  have m0 := s_0
  have m4 := mj_S4.1
  have m5 := mj_B5.1
  refine mj_enter (by decide +kernel) (Nat.le_of_ble_eq_true rfl) ?_
  refine J_ald S_X9_needed rfl rfl ?_
  refine J_getR S_X9_needed rfl (o' := 4) (by assumption) (by omega) rfl ?_
  refine J_getR S_X9_needed rfl (o' := 5) (by assumption) (by omega) rfl ?_
  refine J_CVx S_X9_needed rfl rfl (by assumption) (by omega) (by simp) (C_X0_allNeeds mj_B5 hR hI) rfl ?_
  refine J_retI S_X9_needed rfl ?_
  exact ⟨rfl, rfl⟩
/-! since -/
theorem X9_since_no {w : mv} (hR : RB I 5 w) (hI : IV w) {a : Int32} (h : isV w a = false) : mj_R D_X9_since [.inr (some 0), .inl a] (mj_w I) (mj_ex (some (.inl (-100000001))) I) := by
  have m0 := s_0
  have m4 := mj_S4.1
  have m5 := mj_B5.1
  refine mj_enter (by decide +kernel) (Nat.le_of_ble_eq_true rfl) ?_
  refine J_ald S_X9_since rfl rfl ?_
  refine J_getR S_X9_since rfl (o' := 4) (by assumption) (by omega) rfl ?_
  refine J_getR S_X9_since rfl (o' := 5) (by assumption) (by omega) rfl ?_
  refine J_ild S_X9_since rfl rfl ?_
  refine J_CVx S_X9_since rfl rfl (by assumption) (by omega) (by simp) (Z_find_n hR hI h) rfl ?_
  refine J_nnN S_X9_since rfl ?_
  refine J_C S_X9_since rfl ?_
  refine J_retI S_X9_since rfl ?_
  exact ⟨rfl, rfl⟩
theorem X9_since_ok {w : mv} (hR : RB I 5 w) (hI : IV w) {k : Nat} (hk : k < 8) (he : vk w k 4 = 1) : mj_R D_X9_since [.inr (some 0), .inl (nI k)] (mj_w I) (mj_px (fun r I' => r = some (.inl (nI (ltn (fun n => aq w n k) (tn (w 0))))) ∧ SC I I')) := by
  have m0 := s_0
  have m4 := mj_S4.1
  have m5 := mj_B5.1
  have m294 := s_294
  have hlt := C_X4_lastTurn (I := I) mj_B5 hR hI (by omega) hk he
  refine mj_enter (by decide +kernel) (Nat.le_of_ble_eq_true rfl) ?_
  refine J_ald S_X9_since rfl rfl ?_
  refine J_getR S_X9_since rfl (o' := 4) (by assumption) (by omega) rfl ?_
  refine J_getR S_X9_since rfl (o' := 5) (by assumption) (by omega) rfl ?_
  refine J_ild S_X9_since rfl rfl ?_
  refine J_CVx S_X9_since rfl rfl (by assumption) (by omega) (by simp) (Z_find_y hR hI hk he) rfl ?_
  refine J_nnS S_X9_since rfl ?_
  refine J_ald S_X9_since rfl rfl ?_
  refine J_getR S_X9_since rfl (o' := 294) (by assumption) (by omega) rfl ?_
  refine J_ald S_X9_since rfl rfl ?_
  refine J_getR S_X9_since rfl (o' := 4) (by assumption) (by omega) rfl ?_
  refine J_getR S_X9_since rfl (o' := 5) (by assumption) (by omega) rfl ?_
  refine J_ild S_X9_since rfl rfl ?_
  refine J_CV S_X9_since rfl rfl (by assumption) (by omega) (by simp) (hlt) ?_
  rintro _ _ ⟨I2, rfl, rfl, g⟩
  refine J_retI S_X9_since rfl ?_
  exact ⟨I2, rfl, rfl, sc_rp g⟩
/-! view -/
theorem X9_view_no {w : mv} (hR : RB I 5 w) (hI : IV w) {a b : Int32} (h : ¬ (isV w a = true ∧ (0 ≤ b ∧ b ≤ 9))) : mj_R D_X9_view [.inr (some 0), .inl a, .inl b] (mj_w I) (mj_ex (some (.inl (-100000001))) I) := by
  have m0 := s_0
  have m4 := mj_S4.1
  have m5 := mj_B5.1
  refine mj_enter (by decide +kernel) (Nat.le_of_ble_eq_true rfl) ?_
  cases hv : isV w a
  · refine J_ald S_X9_view rfl rfl ?_
    refine J_getR S_X9_view rfl (o' := 4) (by assumption) (by omega) rfl ?_
    refine J_getR S_X9_view rfl (o' := 5) (by assumption) (by omega) rfl ?_
    refine J_ast S_X9_view rfl rfl ?_
    refine J_ald S_X9_view rfl rfl ?_
    refine J_ild S_X9_view rfl rfl ?_
    refine J_CVx S_X9_view rfl rfl (by assumption) (by omega) (by simp) (Z_find_n hR hI hv) rfl ?_
    refine J_ast S_X9_view rfl rfl ?_
    refine J_ald S_X9_view rfl rfl ?_
    refine J_nuN S_X9_view rfl ?_
    refine J_C S_X9_view rfl ?_
    refine J_retI S_X9_view rfl ?_
    exact ⟨rfl, rfl⟩
  · obtain ⟨k, rfl, hk, he, -⟩ := isV_y hI hv
    refine J_ald S_X9_view rfl rfl ?_
    refine J_getR S_X9_view rfl (o' := 4) (by assumption) (by omega) rfl ?_
    refine J_getR S_X9_view rfl (o' := 5) (by assumption) (by omega) rfl ?_
    refine J_ast S_X9_view rfl rfl ?_
    refine J_ald S_X9_view rfl rfl ?_
    refine J_ild S_X9_view rfl rfl ?_
    refine J_CVx S_X9_view rfl rfl (by assumption) (by omega) (by simp) (Z_find_y hR hI hk he) rfl ?_
    refine J_ast S_X9_view rfl rfl ?_
    refine J_ald S_X9_view rfl rfl ?_
    refine J_nuS S_X9_view rfl ?_
    refine J_ild S_X9_view rfl rfl ?_
    refine J_if S_X9_view rfl (fun c21 => ?_) (fun c21 => ?_)
    · refine J_C S_X9_view rfl ?_
      refine J_retI S_X9_view rfl ?_
      exact ⟨rfl, rfl⟩
    · refine J_ild S_X9_view rfl rfl ?_
      refine J_C S_X9_view rfl ?_
      refine J_cmp S_X9_view rfl (fun c27 => ?_) (fun c27 => ?_)
      · exact absurd ⟨hv, Int32.not_lt.mp c21, c27⟩ h
      · refine J_C S_X9_view rfl ?_
        refine J_retI S_X9_view rfl ?_
        exact ⟨rfl, rfl⟩
theorem X9_view_0 {w : mv} (hR : RB I 5 w) (hI : IV w) {k : Nat} (hk : k < 8) (he : vk w k 4 = 1) : mj_R D_X9_view [.inr (some 0), .inl (nI k), .inl (nI 0)] (mj_w I) (mj_ex (some (.inl (vwV w k 0))) I) := by
  have m0 := s_0
  have m4 := mj_S4.1
  have m5 := mj_B5.1
  have mv := vw_sh hk
  have hv := (hR.2.2.2.2 k hk).2.2 he
  have hw := hI.wv hk he
  refine mj_enter (by decide +kernel) (Nat.le_of_ble_eq_true rfl) ?_
  refine J_ald S_X9_view rfl rfl ?_
  refine J_getR S_X9_view rfl (o' := 4) (by assumption) (by omega) rfl ?_
  refine J_getR S_X9_view rfl (o' := 5) (by assumption) (by omega) rfl ?_
  refine J_ast S_X9_view rfl rfl ?_
  refine J_ald S_X9_view rfl rfl ?_
  refine J_ild S_X9_view rfl rfl ?_
  refine J_CVx S_X9_view rfl rfl (by assumption) (by omega) (by simp) (Z_find_y hR hI hk he) rfl ?_
  refine J_ast S_X9_view rfl rfl ?_
  refine J_ald S_X9_view rfl rfl ?_
  refine J_nuS S_X9_view rfl ?_
  refine J_ild S_X9_view rfl rfl ?_
  refine J_if S_X9_view rfl (fun c21 => False.elim (absurd c21 (by decide))) (fun c21 => ?_)
  refine J_ild S_X9_view rfl rfl ?_
  refine J_C S_X9_view rfl ?_
  refine J_cmp S_X9_view rfl (fun c27 => ?_) (fun c27 => False.elim (c27 (by decide)))
  refine J_ild S_X9_view rfl rfl ?_
  refine J_sw S_X9_view rfl ⟨fun _ => ?_, fun c => False.elim (by revert c; decide)⟩
  refine J_ald S_X9_view rfl rfl ?_
  refine J_getI S_X9_view rfl (by assumption) (by omega) ?_
  refine J_retI S_X9_view rfl ?_
  rw [hv.1]; exact ⟨rfl, rfl⟩
theorem X9_view_1 {w : mv} (hR : RB I 5 w) (hI : IV w) {k : Nat} (hk : k < 8) (he : vk w k 4 = 1) : mj_R D_X9_view [.inr (some 0), .inl (nI k), .inl (nI 1)] (mj_w I) (mj_ex (some (.inl (vwV w k 1))) I) := by
  have m0 := s_0
  have m4 := mj_S4.1
  have m5 := mj_B5.1
  have mv := vw_sh hk
  have hv := (hR.2.2.2.2 k hk).2.2 he
  have hw := hI.wv hk he
  have ht := C_X8_hasTable (I := I) mv (by omega)
  have hk0 := k_012 hw.2.1
  refine mj_enter (by decide +kernel) (Nat.le_of_ble_eq_true rfl) ?_
  show mj_J _ (mj_ex (some (.inl (if 3 ≤ vk w k 0 then -100000009 else vk w k 1))) I) _ _ _ _ _
  rw [hv.1] at ht
  by_cases c : 3 ≤ vk w k 0
  · rw [if_neg (fun g => hk0.mp g c)] at ht
    rw [if_pos c]
    refine J_ald S_X9_view rfl rfl ?_
    refine J_getR S_X9_view rfl (o' := 4) (by assumption) (by omega) rfl ?_
    refine J_getR S_X9_view rfl (o' := 5) (by assumption) (by omega) rfl ?_
    refine J_ast S_X9_view rfl rfl ?_
    refine J_ald S_X9_view rfl rfl ?_
    refine J_ild S_X9_view rfl rfl ?_
    refine J_CVx S_X9_view rfl rfl (by assumption) (by omega) (by simp) (Z_find_y hR hI hk he) rfl ?_
    refine J_ast S_X9_view rfl rfl ?_
    refine J_ald S_X9_view rfl rfl ?_
    refine J_nuS S_X9_view rfl ?_
    refine J_ild S_X9_view rfl rfl ?_
    refine J_if S_X9_view rfl (fun c21 => False.elim (absurd c21 (by decide))) (fun c21 => ?_)
    refine J_ild S_X9_view rfl rfl ?_
    refine J_C S_X9_view rfl ?_
    refine J_cmp S_X9_view rfl (fun c27 => ?_) (fun c27 => False.elim (c27 (by decide)))
    refine J_ild S_X9_view rfl rfl ?_
    refine J_sw S_X9_view rfl ⟨fun c => False.elim (by revert c; decide), fun _ => ⟨fun _ => ?_, fun c => False.elim (by revert c; decide)⟩⟩
    refine J_ald S_X9_view rfl rfl ?_
    refine J_CVx S_X9_view rfl rfl (by assumption) (by omega) (by simp) (ht) rfl ?_
    refine J_if S_X9_view rfl (fun c95 => ?_) (fun c95 => False.elim (c95 rfl))
    refine J_C S_X9_view rfl ?_
    refine J_retI S_X9_view rfl ?_
    exact ⟨rfl, rfl⟩
  · rw [if_pos (hk0.mpr c)] at ht
    rw [if_neg c]
    refine J_ald S_X9_view rfl rfl ?_
    refine J_getR S_X9_view rfl (o' := 4) (by assumption) (by omega) rfl ?_
    refine J_getR S_X9_view rfl (o' := 5) (by assumption) (by omega) rfl ?_
    refine J_ast S_X9_view rfl rfl ?_
    refine J_ald S_X9_view rfl rfl ?_
    refine J_ild S_X9_view rfl rfl ?_
    refine J_CVx S_X9_view rfl rfl (by assumption) (by omega) (by simp) (Z_find_y hR hI hk he) rfl ?_
    refine J_ast S_X9_view rfl rfl ?_
    refine J_ald S_X9_view rfl rfl ?_
    refine J_nuS S_X9_view rfl ?_
    refine J_ild S_X9_view rfl rfl ?_
    refine J_if S_X9_view rfl (fun c21 => False.elim (absurd c21 (by decide))) (fun c21 => ?_)
    refine J_ild S_X9_view rfl rfl ?_
    refine J_C S_X9_view rfl ?_
    refine J_cmp S_X9_view rfl (fun c27 => ?_) (fun c27 => False.elim (c27 (by decide)))
    refine J_ild S_X9_view rfl rfl ?_
    refine J_sw S_X9_view rfl ⟨fun c => False.elim (by revert c; decide), fun _ => ⟨fun _ => ?_, fun c => False.elim (by revert c; decide)⟩⟩
    refine J_ald S_X9_view rfl rfl ?_
    refine J_CVx S_X9_view rfl rfl (by assumption) (by omega) (by simp) (ht) rfl ?_
    refine J_if S_X9_view rfl (fun c95 => False.elim (absurd c95 (by decide))) (fun c95 => ?_)
    refine J_ald S_X9_view rfl rfl ?_
    refine J_getI S_X9_view rfl (by assumption) (by omega) ?_
    refine J_goto S_X9_view rfl ?_
    refine J_retI S_X9_view rfl ?_
    rw [hv.2.1]; exact ⟨rfl, rfl⟩
theorem X9_view_2 {w : mv} (hR : RB I 5 w) (hI : IV w) {k : Nat} (hk : k < 8) (he : vk w k 4 = 1) : mj_R D_X9_view [.inr (some 0), .inl (nI k), .inl (nI 2)] (mj_w I) (mj_ex (some (.inl (vwV w k 2))) I) := by
  have m0 := s_0
  have m4 := mj_S4.1
  have m5 := mj_B5.1
  have mv := vw_sh hk
  have hv := (hR.2.2.2.2 k hk).2.2 he
  have hw := hI.wv hk he
  refine mj_enter (by decide +kernel) (Nat.le_of_ble_eq_true rfl) ?_
  refine J_ald S_X9_view rfl rfl ?_
  refine J_getR S_X9_view rfl (o' := 4) (by assumption) (by omega) rfl ?_
  refine J_getR S_X9_view rfl (o' := 5) (by assumption) (by omega) rfl ?_
  refine J_ast S_X9_view rfl rfl ?_
  refine J_ald S_X9_view rfl rfl ?_
  refine J_ild S_X9_view rfl rfl ?_
  refine J_CVx S_X9_view rfl rfl (by assumption) (by omega) (by simp) (Z_find_y hR hI hk he) rfl ?_
  refine J_ast S_X9_view rfl rfl ?_
  refine J_ald S_X9_view rfl rfl ?_
  refine J_nuS S_X9_view rfl ?_
  refine J_ild S_X9_view rfl rfl ?_
  refine J_if S_X9_view rfl (fun c21 => False.elim (absurd c21 (by decide))) (fun c21 => ?_)
  refine J_ild S_X9_view rfl rfl ?_
  refine J_C S_X9_view rfl ?_
  refine J_cmp S_X9_view rfl (fun c27 => ?_) (fun c27 => False.elim (c27 (by decide)))
  refine J_ild S_X9_view rfl rfl ?_
  refine J_sw S_X9_view rfl ⟨fun c => False.elim (by revert c; decide), fun _ => ⟨fun c => False.elim (by revert c; decide), fun _ => ⟨fun _ => ?_, fun c => False.elim (by revert c; decide)⟩⟩⟩
  refine J_ald S_X9_view rfl rfl ?_
  refine J_getI S_X9_view rfl (by assumption) (by omega) ?_
  refine J_retI S_X9_view rfl ?_
  rw [hv.2.2.1]; exact ⟨rfl, rfl⟩
theorem X9_view_3 {w : mv} (hR : RB I 5 w) (hI : IV w) {k : Nat} (hk : k < 8) (he : vk w k 4 = 1) : mj_R D_X9_view [.inr (some 0), .inl (nI k), .inl (nI 3)] (mj_w I) (mj_ex (some (.inl (vwV w k 3))) I) := by
  have m0 := s_0
  have m4 := mj_S4.1
  have m5 := mj_B5.1
  have mv := vw_sh hk
  have hv := (hR.2.2.2.2 k hk).2.2 he
  have hw := hI.wv hk he
  refine mj_enter (by decide +kernel) (Nat.le_of_ble_eq_true rfl) ?_
  refine J_ald S_X9_view rfl rfl ?_
  refine J_getR S_X9_view rfl (o' := 4) (by assumption) (by omega) rfl ?_
  refine J_getR S_X9_view rfl (o' := 5) (by assumption) (by omega) rfl ?_
  refine J_ast S_X9_view rfl rfl ?_
  refine J_ald S_X9_view rfl rfl ?_
  refine J_ild S_X9_view rfl rfl ?_
  refine J_CVx S_X9_view rfl rfl (by assumption) (by omega) (by simp) (Z_find_y hR hI hk he) rfl ?_
  refine J_ast S_X9_view rfl rfl ?_
  refine J_ald S_X9_view rfl rfl ?_
  refine J_nuS S_X9_view rfl ?_
  refine J_ild S_X9_view rfl rfl ?_
  refine J_if S_X9_view rfl (fun c21 => False.elim (absurd c21 (by decide))) (fun c21 => ?_)
  refine J_ild S_X9_view rfl rfl ?_
  refine J_C S_X9_view rfl ?_
  refine J_cmp S_X9_view rfl (fun c27 => ?_) (fun c27 => False.elim (c27 (by decide)))
  refine J_ild S_X9_view rfl rfl ?_
  refine J_sw S_X9_view rfl ⟨fun c => False.elim (by revert c; decide), fun _ => ⟨fun c => False.elim (by revert c; decide), fun _ => ⟨fun c => False.elim (by revert c; decide), fun _ => ⟨fun _ => ?_, fun c => False.elim (by revert c; decide)⟩⟩⟩⟩
  refine J_ald S_X9_view rfl rfl ?_
  refine J_getI S_X9_view rfl (by assumption) (by omega) ?_
  refine J_retI S_X9_view rfl ?_
  rw [hv.2.2.2.1]; exact ⟨rfl, rfl⟩
theorem X9_view_4 {w : mv} (hR : RB I 5 w) (hI : IV w) {k : Nat} (hk : k < 8) (he : vk w k 4 = 1) : mj_R D_X9_view [.inr (some 0), .inl (nI k), .inl (nI 4)] (mj_w I) (mj_ex (some (.inl (vwV w k 4))) I) := by
  have m0 := s_0
  have m4 := mj_S4.1
  have m5 := mj_B5.1
  have mv := vw_sh hk
  have hv := (hR.2.2.2.2 k hk).2.2 he
  have hw := hI.wv hk he
  have e7 := hv.2.2.2.2.2.2.1
  refine mj_enter (by decide +kernel) (Nat.le_of_ble_eq_true rfl) ?_
  show mj_J _ (mj_ex (some (.inl (vk w k 5))) I) _ _ _ _ _
  rcases rg_01 hw.2.2.2.2.2.2.2.2.2.1 with h5 | h5
  · rw [h5] at e7 ⊢
    refine J_ald S_X9_view rfl rfl ?_
    refine J_getR S_X9_view rfl (o' := 4) (by assumption) (by omega) rfl ?_
    refine J_getR S_X9_view rfl (o' := 5) (by assumption) (by omega) rfl ?_
    refine J_ast S_X9_view rfl rfl ?_
    refine J_ald S_X9_view rfl rfl ?_
    refine J_ild S_X9_view rfl rfl ?_
    refine J_CVx S_X9_view rfl rfl (by assumption) (by omega) (by simp) (Z_find_y hR hI hk he) rfl ?_
    refine J_ast S_X9_view rfl rfl ?_
    refine J_ald S_X9_view rfl rfl ?_
    refine J_nuS S_X9_view rfl ?_
    refine J_ild S_X9_view rfl rfl ?_
    refine J_if S_X9_view rfl (fun c21 => False.elim (absurd c21 (by decide))) (fun c21 => ?_)
    refine J_ild S_X9_view rfl rfl ?_
    refine J_C S_X9_view rfl ?_
    refine J_cmp S_X9_view rfl (fun c27 => ?_) (fun c27 => False.elim (c27 (by decide)))
    refine J_ild S_X9_view rfl rfl ?_
    refine J_sw S_X9_view rfl ⟨fun c => False.elim (by revert c; decide), fun _ => ⟨fun c => False.elim (by revert c; decide), fun _ => ⟨fun c => False.elim (by revert c; decide), fun _ => ⟨fun c => False.elim (by revert c; decide), fun _ => ⟨fun _ => ?_, fun c => False.elim (by revert c; decide)⟩⟩⟩⟩⟩
    refine J_ald S_X9_view rfl rfl ?_
    refine J_getI S_X9_view rfl (by assumption) (by omega) ?_
    rw [e7]
    refine J_if S_X9_view rfl (fun c126 => ?_) (fun c126 => False.elim (c126 rfl))
    refine J_C S_X9_view rfl ?_
    refine J_retI S_X9_view rfl ?_
    exact ⟨rfl, rfl⟩
  · rw [h5] at e7 ⊢
    refine J_ald S_X9_view rfl rfl ?_
    refine J_getR S_X9_view rfl (o' := 4) (by assumption) (by omega) rfl ?_
    refine J_getR S_X9_view rfl (o' := 5) (by assumption) (by omega) rfl ?_
    refine J_ast S_X9_view rfl rfl ?_
    refine J_ald S_X9_view rfl rfl ?_
    refine J_ild S_X9_view rfl rfl ?_
    refine J_CVx S_X9_view rfl rfl (by assumption) (by omega) (by simp) (Z_find_y hR hI hk he) rfl ?_
    refine J_ast S_X9_view rfl rfl ?_
    refine J_ald S_X9_view rfl rfl ?_
    refine J_nuS S_X9_view rfl ?_
    refine J_ild S_X9_view rfl rfl ?_
    refine J_if S_X9_view rfl (fun c21 => False.elim (absurd c21 (by decide))) (fun c21 => ?_)
    refine J_ild S_X9_view rfl rfl ?_
    refine J_C S_X9_view rfl ?_
    refine J_cmp S_X9_view rfl (fun c27 => ?_) (fun c27 => False.elim (c27 (by decide)))
    refine J_ild S_X9_view rfl rfl ?_
    refine J_sw S_X9_view rfl ⟨fun c => False.elim (by revert c; decide), fun _ => ⟨fun c => False.elim (by revert c; decide), fun _ => ⟨fun c => False.elim (by revert c; decide), fun _ => ⟨fun c => False.elim (by revert c; decide), fun _ => ⟨fun _ => ?_, fun c => False.elim (by revert c; decide)⟩⟩⟩⟩⟩
    refine J_ald S_X9_view rfl rfl ?_
    refine J_getI S_X9_view rfl (by assumption) (by omega) ?_
    rw [e7]
    refine J_if S_X9_view rfl (fun c126 => False.elim (absurd c126 (by decide))) (fun c126 => ?_)
    refine J_C S_X9_view rfl ?_
    refine J_goto S_X9_view rfl ?_
    refine J_retI S_X9_view rfl ?_
    exact ⟨rfl, rfl⟩
theorem X9_view_5 {w : mv} (hR : RB I 5 w) (hI : IV w) {k : Nat} (hk : k < 8) (he : vk w k 4 = 1) : mj_R D_X9_view [.inr (some 0), .inl (nI k), .inl (nI 5)] (mj_w I) (mj_ex (some (.inl (vwV w k 5))) I) := by
  have m0 := s_0
  have m4 := mj_S4.1
  have m5 := mj_B5.1
  have mv := vw_sh hk
  have hv := (hR.2.2.2.2 k hk).2.2 he
  have hw := hI.wv hk he
  have e7 := hv.2.2.2.2.2.2.1
  have e8 := hv.2.2.2.2.2.2.2.1
  refine mj_enter (by decide +kernel) (Nat.le_of_ble_eq_true rfl) ?_
  show mj_J _ (mj_ex (some (.inl (if vk w k 5 = 1 then -100000009 else vk w k 6))) I) _ _ _ _ _
  rcases rg_01 hw.2.2.2.2.2.2.2.2.2.1 with h5 | h5
  · rw [h5] at e7 ⊢
    rw [if_neg (by decide)]
    refine J_ald S_X9_view rfl rfl ?_
    refine J_getR S_X9_view rfl (o' := 4) (by assumption) (by omega) rfl ?_
    refine J_getR S_X9_view rfl (o' := 5) (by assumption) (by omega) rfl ?_
    refine J_ast S_X9_view rfl rfl ?_
    refine J_ald S_X9_view rfl rfl ?_
    refine J_ild S_X9_view rfl rfl ?_
    refine J_CVx S_X9_view rfl rfl (by assumption) (by omega) (by simp) (Z_find_y hR hI hk he) rfl ?_
    refine J_ast S_X9_view rfl rfl ?_
    refine J_ald S_X9_view rfl rfl ?_
    refine J_nuS S_X9_view rfl ?_
    refine J_ild S_X9_view rfl rfl ?_
    refine J_if S_X9_view rfl (fun c21 => False.elim (absurd c21 (by decide))) (fun c21 => ?_)
    refine J_ild S_X9_view rfl rfl ?_
    refine J_C S_X9_view rfl ?_
    refine J_cmp S_X9_view rfl (fun c27 => ?_) (fun c27 => False.elim (c27 (by decide)))
    refine J_ild S_X9_view rfl rfl ?_
    refine J_sw S_X9_view rfl ⟨fun c => False.elim (by revert c; decide), fun _ => ⟨fun c => False.elim (by revert c; decide), fun _ => ⟨fun c => False.elim (by revert c; decide), fun _ => ⟨fun c => False.elim (by revert c; decide), fun _ => ⟨fun c => False.elim (by revert c; decide), fun _ => ⟨fun _ => ?_, fun c => False.elim (by revert c; decide)⟩⟩⟩⟩⟩⟩
    refine J_ald S_X9_view rfl rfl ?_
    refine J_getI S_X9_view rfl (by assumption) (by omega) ?_
    rw [e7]
    refine J_if S_X9_view rfl (fun c140 => ?_) (fun c140 => False.elim (c140 rfl))
    refine J_ald S_X9_view rfl rfl ?_
    refine J_getI S_X9_view rfl (by assumption) (by omega) ?_
    refine J_retI S_X9_view rfl ?_
    rw [e8]; exact ⟨rfl, rfl⟩
  · rw [h5] at e7 ⊢
    rw [if_pos rfl]
    refine J_ald S_X9_view rfl rfl ?_
    refine J_getR S_X9_view rfl (o' := 4) (by assumption) (by omega) rfl ?_
    refine J_getR S_X9_view rfl (o' := 5) (by assumption) (by omega) rfl ?_
    refine J_ast S_X9_view rfl rfl ?_
    refine J_ald S_X9_view rfl rfl ?_
    refine J_ild S_X9_view rfl rfl ?_
    refine J_CVx S_X9_view rfl rfl (by assumption) (by omega) (by simp) (Z_find_y hR hI hk he) rfl ?_
    refine J_ast S_X9_view rfl rfl ?_
    refine J_ald S_X9_view rfl rfl ?_
    refine J_nuS S_X9_view rfl ?_
    refine J_ild S_X9_view rfl rfl ?_
    refine J_if S_X9_view rfl (fun c21 => False.elim (absurd c21 (by decide))) (fun c21 => ?_)
    refine J_ild S_X9_view rfl rfl ?_
    refine J_C S_X9_view rfl ?_
    refine J_cmp S_X9_view rfl (fun c27 => ?_) (fun c27 => False.elim (c27 (by decide)))
    refine J_ild S_X9_view rfl rfl ?_
    refine J_sw S_X9_view rfl ⟨fun c => False.elim (by revert c; decide), fun _ => ⟨fun c => False.elim (by revert c; decide), fun _ => ⟨fun c => False.elim (by revert c; decide), fun _ => ⟨fun c => False.elim (by revert c; decide), fun _ => ⟨fun c => False.elim (by revert c; decide), fun _ => ⟨fun _ => ?_, fun c => False.elim (by revert c; decide)⟩⟩⟩⟩⟩⟩
    refine J_ald S_X9_view rfl rfl ?_
    refine J_getI S_X9_view rfl (by assumption) (by omega) ?_
    rw [e7]
    refine J_if S_X9_view rfl (fun c140 => False.elim (absurd c140 (by decide))) (fun c140 => ?_)
    refine J_C S_X9_view rfl ?_
    refine J_goto S_X9_view rfl ?_
    refine J_retI S_X9_view rfl ?_
    exact ⟨rfl, rfl⟩
theorem X9_view_6 {w : mv} (hR : RB I 5 w) (hI : IV w) {k : Nat} (hk : k < 8) (he : vk w k 4 = 1) : mj_R D_X9_view [.inr (some 0), .inl (nI k), .inl (nI 6)] (mj_w I) (mj_ex (some (.inl (vwV w k 6))) I) := by
  have m0 := s_0
  have m4 := mj_S4.1
  have m5 := mj_B5.1
  have mv := vw_sh hk
  have hv := (hR.2.2.2.2 k hk).2.2 he
  have hw := hI.wv hk he
  refine mj_enter (by decide +kernel) (Nat.le_of_ble_eq_true rfl) ?_
  refine J_ald S_X9_view rfl rfl ?_
  refine J_getR S_X9_view rfl (o' := 4) (by assumption) (by omega) rfl ?_
  refine J_getR S_X9_view rfl (o' := 5) (by assumption) (by omega) rfl ?_
  refine J_ast S_X9_view rfl rfl ?_
  refine J_ald S_X9_view rfl rfl ?_
  refine J_ild S_X9_view rfl rfl ?_
  refine J_CVx S_X9_view rfl rfl (by assumption) (by omega) (by simp) (Z_find_y hR hI hk he) rfl ?_
  refine J_ast S_X9_view rfl rfl ?_
  refine J_ald S_X9_view rfl rfl ?_
  refine J_nuS S_X9_view rfl ?_
  refine J_ild S_X9_view rfl rfl ?_
  refine J_if S_X9_view rfl (fun c21 => False.elim (absurd c21 (by decide))) (fun c21 => ?_)
  refine J_ild S_X9_view rfl rfl ?_
  refine J_C S_X9_view rfl ?_
  refine J_cmp S_X9_view rfl (fun c27 => ?_) (fun c27 => False.elim (c27 (by decide)))
  refine J_ild S_X9_view rfl rfl ?_
  refine J_sw S_X9_view rfl ⟨fun c => False.elim (by revert c; decide), fun _ => ⟨fun c => False.elim (by revert c; decide), fun _ => ⟨fun c => False.elim (by revert c; decide), fun _ => ⟨fun c => False.elim (by revert c; decide), fun _ => ⟨fun c => False.elim (by revert c; decide), fun _ => ⟨fun c => False.elim (by revert c; decide), fun _ => ⟨fun _ => ?_, fun c => False.elim (by revert c; decide)⟩⟩⟩⟩⟩⟩⟩
  refine J_ald S_X9_view rfl rfl ?_
  refine J_ald S_X9_view rfl rfl ?_
  refine J_CVx S_X9_view rfl rfl (by assumption) (by omega) (by simp) (C_X0_arrears mj_B5 hR hI hk he) rfl ?_
  refine J_retI S_X9_view rfl ?_
  exact ⟨rfl, rfl⟩
theorem X9_view_7 {w : mv} (hR : RB I 5 w) (hI : IV w) {k : Nat} (hk : k < 8) (he : vk w k 4 = 1) : mj_R D_X9_view [.inr (some 0), .inl (nI k), .inl (nI 7)] (mj_w I) (mj_ex (some (.inl (vwV w k 7))) I) := by
  have m0 := s_0
  have m4 := mj_S4.1
  have m5 := mj_B5.1
  have mv := vw_sh hk
  have hv := (hR.2.2.2.2 k hk).2.2 he
  have hw := hI.wv hk he
  refine mj_enter (by decide +kernel) (Nat.le_of_ble_eq_true rfl) ?_
  refine J_ald S_X9_view rfl rfl ?_
  refine J_getR S_X9_view rfl (o' := 4) (by assumption) (by omega) rfl ?_
  refine J_getR S_X9_view rfl (o' := 5) (by assumption) (by omega) rfl ?_
  refine J_ast S_X9_view rfl rfl ?_
  refine J_ald S_X9_view rfl rfl ?_
  refine J_ild S_X9_view rfl rfl ?_
  refine J_CVx S_X9_view rfl rfl (by assumption) (by omega) (by simp) (Z_find_y hR hI hk he) rfl ?_
  refine J_ast S_X9_view rfl rfl ?_
  refine J_ald S_X9_view rfl rfl ?_
  refine J_nuS S_X9_view rfl ?_
  refine J_ild S_X9_view rfl rfl ?_
  refine J_if S_X9_view rfl (fun c21 => False.elim (absurd c21 (by decide))) (fun c21 => ?_)
  refine J_ild S_X9_view rfl rfl ?_
  refine J_C S_X9_view rfl ?_
  refine J_cmp S_X9_view rfl (fun c27 => ?_) (fun c27 => False.elim (c27 (by decide)))
  refine J_ild S_X9_view rfl rfl ?_
  refine J_sw S_X9_view rfl ⟨fun c => False.elim (by revert c; decide), fun _ => ⟨fun c => False.elim (by revert c; decide), fun _ => ⟨fun c => False.elim (by revert c; decide), fun _ => ⟨fun c => False.elim (by revert c; decide), fun _ => ⟨fun c => False.elim (by revert c; decide), fun _ => ⟨fun c => False.elim (by revert c; decide), fun _ => ⟨fun c => False.elim (by revert c; decide), fun _ => ⟨fun _ => ?_, fun c => False.elim (by revert c; decide)⟩⟩⟩⟩⟩⟩⟩⟩
  refine J_ald S_X9_view rfl rfl ?_
  refine J_getI S_X9_view rfl (by assumption) (by omega) ?_
  refine J_retI S_X9_view rfl ?_
  rw [hv.2.2.2.2.2.2.2.2.1]; exact ⟨rfl, rfl⟩
theorem X9_view_8 {w : mv} (hR : RB I 5 w) (hI : IV w) {k : Nat} (hk : k < 8) (he : vk w k 4 = 1) : mj_R D_X9_view [.inr (some 0), .inl (nI k), .inl (nI 8)] (mj_w I) (mj_ex (some (.inl (vwV w k 8))) I) := by
  have m0 := s_0
  have m4 := mj_S4.1
  have m5 := mj_B5.1
  have mv := vw_sh hk
  have hv := (hR.2.2.2.2 k hk).2.2 he
  have hw := hI.wv hk he
  refine mj_enter (by decide +kernel) (Nat.le_of_ble_eq_true rfl) ?_
  refine J_ald S_X9_view rfl rfl ?_
  refine J_getR S_X9_view rfl (o' := 4) (by assumption) (by omega) rfl ?_
  refine J_getR S_X9_view rfl (o' := 5) (by assumption) (by omega) rfl ?_
  refine J_ast S_X9_view rfl rfl ?_
  refine J_ald S_X9_view rfl rfl ?_
  refine J_ild S_X9_view rfl rfl ?_
  refine J_CVx S_X9_view rfl rfl (by assumption) (by omega) (by simp) (Z_find_y hR hI hk he) rfl ?_
  refine J_ast S_X9_view rfl rfl ?_
  refine J_ald S_X9_view rfl rfl ?_
  refine J_nuS S_X9_view rfl ?_
  refine J_ild S_X9_view rfl rfl ?_
  refine J_if S_X9_view rfl (fun c21 => False.elim (absurd c21 (by decide))) (fun c21 => ?_)
  refine J_ild S_X9_view rfl rfl ?_
  refine J_C S_X9_view rfl ?_
  refine J_cmp S_X9_view rfl (fun c27 => ?_) (fun c27 => False.elim (c27 (by decide)))
  refine J_ild S_X9_view rfl rfl ?_
  refine J_sw S_X9_view rfl ⟨fun c => False.elim (by revert c; decide), fun _ => ⟨fun c => False.elim (by revert c; decide), fun _ => ⟨fun c => False.elim (by revert c; decide), fun _ => ⟨fun c => False.elim (by revert c; decide), fun _ => ⟨fun c => False.elim (by revert c; decide), fun _ => ⟨fun c => False.elim (by revert c; decide), fun _ => ⟨fun c => False.elim (by revert c; decide), fun _ => ⟨fun c => False.elim (by revert c; decide), fun _ => ⟨fun _ => ?_, fun c => False.elim (by revert c; decide)⟩⟩⟩⟩⟩⟩⟩⟩⟩
  refine J_ald S_X9_view rfl rfl ?_
  refine J_ald S_X9_view rfl rfl ?_
  refine J_CVx S_X9_view rfl rfl (by assumption) (by omega) (by simp) (C_X0_need mj_B5 hR hI hk he) rfl ?_
  refine J_retI S_X9_view rfl ?_
  exact ⟨rfl, rfl⟩
theorem X9_view_9 {w : mv} (hR : RB I 5 w) (hI : IV w) {k : Nat} (hk : k < 8) (he : vk w k 4 = 1) : mj_R D_X9_view [.inr (some 0), .inl (nI k), .inl (nI 9)] (mj_w I) (mj_ex (some (.inl (vwV w k 9))) I) := by
  have m0 := s_0
  have m4 := mj_S4.1
  have m5 := mj_B5.1
  have mv := vw_sh hk
  have hv := (hR.2.2.2.2 k hk).2.2 he
  have hw := hI.wv hk he
  refine mj_enter (by decide +kernel) (Nat.le_of_ble_eq_true rfl) ?_
  refine J_ald S_X9_view rfl rfl ?_
  refine J_getR S_X9_view rfl (o' := 4) (by assumption) (by omega) rfl ?_
  refine J_getR S_X9_view rfl (o' := 5) (by assumption) (by omega) rfl ?_
  refine J_ast S_X9_view rfl rfl ?_
  refine J_ald S_X9_view rfl rfl ?_
  refine J_ild S_X9_view rfl rfl ?_
  refine J_CVx S_X9_view rfl rfl (by assumption) (by omega) (by simp) (Z_find_y hR hI hk he) rfl ?_
  refine J_ast S_X9_view rfl rfl ?_
  refine J_ald S_X9_view rfl rfl ?_
  refine J_nuS S_X9_view rfl ?_
  refine J_ild S_X9_view rfl rfl ?_
  refine J_if S_X9_view rfl (fun c21 => False.elim (absurd c21 (by decide))) (fun c21 => ?_)
  refine J_ild S_X9_view rfl rfl ?_
  refine J_C S_X9_view rfl ?_
  refine J_cmp S_X9_view rfl (fun c27 => ?_) (fun c27 => False.elim (c27 (by decide)))
  refine J_ild S_X9_view rfl rfl ?_
  refine J_sw S_X9_view rfl ⟨fun c => False.elim (by revert c; decide), fun _ => ⟨fun c => False.elim (by revert c; decide), fun _ => ⟨fun c => False.elim (by revert c; decide), fun _ => ⟨fun c => False.elim (by revert c; decide), fun _ => ⟨fun c => False.elim (by revert c; decide), fun _ => ⟨fun c => False.elim (by revert c; decide), fun _ => ⟨fun c => False.elim (by revert c; decide), fun _ => ⟨fun c => False.elim (by revert c; decide), fun _ => ⟨fun c => False.elim (by revert c; decide), fun _ => ?_⟩⟩⟩⟩⟩⟩⟩⟩⟩
  refine J_ald S_X9_view rfl rfl ?_
  refine J_getI S_X9_view rfl (by assumption) (by omega) ?_
  refine J_retI S_X9_view rfl ?_
  rw [hv.2.2.2.2.2.2.2.2.2]; exact ⟨rfl, rfl⟩
end P8
