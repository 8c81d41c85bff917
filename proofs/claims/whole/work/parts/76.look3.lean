def rnV (more lim : Int32) : Nat → Nat → Int32 → Int32
  | 0, _, _ => -100000009
  | n + 1, t, d => if lim < d + more then nI t else rnV more lim n (t + 1) (d + more)
theorem mj_B298 : mj_isB 298 := by unfold mj_isB; decide +kernel
def vwV (v : mv) (k j : Nat) : Int32 :=
  if j = 0 then vk v k 0 else if j = 1 then (if 3 ≤ vk v k 0 then -100000009 else vk v k 1) else if j = 2 then vk v k 2 else if j = 3 then vk v k 3 else if j = 4 then vk v k 5 else
  if j = 5 then (if vk v k 5 = 1 then -100000009 else vk v k 6) else if j = 6 then nI (arr v k) else if j = 7 then vk v k 7 else if j = 8 then need v k else vk v k 8
def smN (v : mv) : Nat → Int32
  | 0 => 0
  | n + 1 => smN v n + (if (ex v n && decide (vk v n 5 = 0)) = true then need v n else 0)
section P8
variable {I : mj_I}
/-! ruin -/
theorem X9_ruin_no {w : mv} (hR : RB I 5 w) (hI : IV w) {a : Int32} (h : isV w a = false) : mj_R D_X9_ruin [.inr (some 0), .inl a] (mj_w I) (mj_ex (some (.inl (-100000001))) I) := by
  have m0 := s_0
  have m4 := mj_S4.1
  have m5 := mj_B5.1
  refine mj_enter (by decide +kernel) (Nat.le_of_ble_eq_true rfl) ?_
  refine J_ald S_X9_ruin rfl rfl ?_
  refine J_getR S_X9_ruin rfl (o' := 4) (by assumption) (by omega) rfl ?_
  refine J_getR S_X9_ruin rfl (o' := 5) (by assumption) (by omega) rfl ?_
  refine J_ast S_X9_ruin rfl rfl ?_
  refine J_ald S_X9_ruin rfl rfl ?_
  refine J_ild S_X9_ruin rfl rfl ?_
  refine J_CVx S_X9_ruin rfl rfl (by assumption) (by omega) (by simp) (Z_find_n hR hI h) rfl ?_
  refine J_ast S_X9_ruin rfl rfl ?_
  refine J_ald S_X9_ruin rfl rfl ?_
  refine J_nnN S_X9_ruin rfl ?_
  refine J_C S_X9_ruin rfl ?_
  refine J_retI S_X9_ruin rfl ?_
  exact ⟨rfl, rfl⟩
theorem X9_ruin_ill {w : mv} (hR : RB I 5 w) (hI : IV w) {k : Nat} (hk : k < 8) (he : vk w k 4 = 1) (h : vk w k 5 = 1) : mj_R D_X9_ruin [.inr (some 0), .inl (nI k)] (mj_w I) (mj_ex (some (.inl (-100000002))) I) := by
  have m0 := s_0
  have m4 := mj_S4.1
  have m5 := mj_B5.1
  have mv := vw_sh hk
  have e7 : I (5 + 7 + k) 7 = 1 := (((hR.2.2.2.2 k hk).2.2 he).2.2.2.2.2.2.1).trans h
  refine mj_enter (by decide +kernel) (Nat.le_of_ble_eq_true rfl) ?_
  refine J_ald S_X9_ruin rfl rfl ?_
  refine J_getR S_X9_ruin rfl (o' := 4) (by assumption) (by omega) rfl ?_
  refine J_getR S_X9_ruin rfl (o' := 5) (by assumption) (by omega) rfl ?_
  refine J_ast S_X9_ruin rfl rfl ?_
  refine J_ald S_X9_ruin rfl rfl ?_
  refine J_ild S_X9_ruin rfl rfl ?_
  refine J_CVx S_X9_ruin rfl rfl (by assumption) (by omega) (by simp) (Z_find_y hR hI hk he) rfl ?_
  refine J_ast S_X9_ruin rfl rfl ?_
  refine J_ald S_X9_ruin rfl rfl ?_
  refine J_nnS S_X9_ruin rfl ?_
  refine J_ald S_X9_ruin rfl rfl ?_
  refine J_getI S_X9_ruin rfl (by assumption) (by omega) ?_
  rw [e7]
  refine J_if S_X9_ruin rfl (fun c25 => False.elim (absurd c25 (by decide))) (fun c25 => ?_)
  refine J_C S_X9_ruin rfl ?_
  refine J_retI S_X9_ruin rfl ?_
  exact ⟨rfl, rfl⟩
theorem X9_ruin_ok {w : mv} (hR : RB I 5 w) (hI : IV w) {k : Nat} (hk : k < 8) (he : vk w k 4 = 1) (h : vk w k 5 = 0) {N : Nat} (hN : N = 1000) : mj_R D_X9_ruin [.inr (some 0), .inl (nI k)] (mj_w I) (mj_ex (some (.inl (rnV (w 9 * nI (arr w k)) (w 11) N 1 (vk w k 7)))) I) := by
  have m0 := s_0
  have m4 := mj_S4.1
  have m5 := mj_B5.1
  have mv := vw_sh hk
  have e7 : I (5 + 7 + k) 7 = 0 := (((hR.2.2.2.2 k hk).2.2 he).2.2.2.2.2.2.1).trans h
  have e9 : I (5 + 7 + k) 9 = vk w k 7 := ((hR.2.2.2.2 k hk).2.2 he).2.2.2.2.2.2.2.2.1
  have e2 : I (5 + 5) 2 = w 11 := hR.2.2.1 2 (by decide)
  have hin := C_X0_interest (I := I) mj_B5 hR hI hk he
  have hst := C_X0_setting (I := I) mj_B5 (i := 2) (by decide)
  rw [e2] at hst
  generalize w 9 * nI (arr w k) = more at *
  generalize w 11 = lim at *
  generalize vk w k 7 = d0 at *
  have hend : ∀ R, (R : Int32) = rnV more lim N 1 d0 → mj_R D_X9_ruin [.inr (some 0), .inl (nI k)] (mj_w I) (mj_ex (some (.inl R)) I) := by
    intro R hRR
    refine mj_enter (by decide +kernel) (Nat.le_of_ble_eq_true rfl) ?_
    have key : ∀ (n t : Nat) (d : Int32), t + n = 1001 → R = rnV more lim n t d → mj_J D_X9_ruin (mj_ex (some (.inl R)) I) 54 [some (.inr (some 0)), some (.inl (nI k)), some (.inr (some 5)), some (.inr (some (5 + 7 + k))), some (.inl more), some (.inl lim), some (.inl d), some (.inl (nI t))] [] (mj_w I) (0, 0) := by
      intro n
      induction n with
      | zero =>
        intro t d ht hr
        rw [rnV] at hr
        subst hr
        refine J_ild S_X9_ruin rfl rfl ?_
        refine J_C S_X9_ruin rfl ?_
        refine J_cmp S_X9_ruin rfl (fun c59 => ?_) (fun c59 => False.elim (c59 (nI_lt (a := 1000) (by omega) (by omega))))
        refine J_C S_X9_ruin rfl ?_
        refine J_retI S_X9_ruin rfl ?_
        exact ⟨rfl, rfl⟩
      | succ n ih =>
        intro t d ht hr
        rw [rnV] at hr
        by_cases c : lim < d + more
        · rw [if_pos c] at hr
          subst hr
          refine J_ild S_X9_ruin rfl rfl ?_
          refine J_C S_X9_ruin rfl ?_
          refine J_cmp S_X9_ruin rfl (fun c59 => False.elim (nI_nlt (a := 1000) (by omega) (by decide) c59)) (fun c59 => ?_)
          refine J_ild S_X9_ruin rfl rfl ?_
          refine J_ild S_X9_ruin rfl rfl ?_
          refine J_bin S_X9_ruin rfl ?_
          refine J_ist S_X9_ruin rfl rfl ?_
          refine J_ild S_X9_ruin rfl rfl ?_
          refine J_ild S_X9_ruin rfl rfl ?_
          refine J_cmp S_X9_ruin rfl (fun c73 => False.elim (Int32.not_lt.mpr c73 c)) (fun c73 => ?_)
          refine J_ild S_X9_ruin rfl rfl ?_
          refine J_retI S_X9_ruin rfl ?_
          exact ⟨rfl, rfl⟩
        · rw [if_neg c] at hr
          refine J_ild S_X9_ruin rfl rfl ?_
          refine J_C S_X9_ruin rfl ?_
          refine J_cmp S_X9_ruin rfl (fun c59 => False.elim (nI_nlt (a := 1000) (by omega) (by decide) c59)) (fun c59 => ?_)
          refine J_ild S_X9_ruin rfl rfl ?_
          refine J_ild S_X9_ruin rfl rfl ?_
          refine J_bin S_X9_ruin rfl ?_
          refine J_ist S_X9_ruin rfl rfl ?_
          refine J_ild S_X9_ruin rfl rfl ?_
          refine J_ild S_X9_ruin rfl rfl ?_
          refine J_cmp S_X9_ruin rfl (fun c73 => ?_) (fun c73 => False.elim (c73 (Int32.not_lt.mp c)))
          refine J_inc S_X9_ruin rfl rfl rfl ?_
          refine J_goto S_X9_ruin rfl ?_
          rw [← nI_succ]
          exact ih (t + 1) _ (by omega) hr
    refine J_ald S_X9_ruin rfl rfl ?_
    refine J_getR S_X9_ruin rfl (o' := 4) (by assumption) (by omega) rfl ?_
    refine J_getR S_X9_ruin rfl (o' := 5) (by assumption) (by omega) rfl ?_
    refine J_ast S_X9_ruin rfl rfl ?_
    refine J_ald S_X9_ruin rfl rfl ?_
    refine J_ild S_X9_ruin rfl rfl ?_
    refine J_CVx S_X9_ruin rfl rfl (by assumption) (by omega) (by simp) (Z_find_y hR hI hk he) rfl ?_
    refine J_ast S_X9_ruin rfl rfl ?_
    refine J_ald S_X9_ruin rfl rfl ?_
    refine J_nnS S_X9_ruin rfl ?_
    refine J_ald S_X9_ruin rfl rfl ?_
    refine J_getI S_X9_ruin rfl (by assumption) (by omega) ?_
    rw [e7]
    refine J_if S_X9_ruin rfl (fun c25 => ?_) (fun c25 => False.elim (c25 rfl))
    refine J_ald S_X9_ruin rfl rfl ?_
    refine J_ald S_X9_ruin rfl rfl ?_
    refine J_CVx S_X9_ruin rfl rfl (by assumption) (by omega) (by simp) (hin) rfl ?_
    refine J_ist S_X9_ruin rfl rfl ?_
    refine J_ald S_X9_ruin rfl rfl ?_
    refine J_C S_X9_ruin rfl ?_
    refine J_CVx S_X9_ruin rfl rfl (by assumption) (by omega) (by simp) (hst) rfl ?_
    refine J_ist S_X9_ruin rfl rfl ?_
    refine J_ald S_X9_ruin rfl rfl ?_
    refine J_getI S_X9_ruin rfl (by assumption) (by omega) ?_
    rw [e9]
    refine J_ist S_X9_ruin rfl rfl ?_
    refine J_C S_X9_ruin rfl ?_
    refine J_ist S_X9_ruin rfl rfl ?_
    exact key N 1 d0 (by omega) hRR
  exact hend _ rfl
theorem X10_ruin_no (hI : IV (I 314)) {a : Int32} (h : isV (I 314) a = false) : mj_R D_X10_ruin [.inr (some 313), .inl a] (mj_w I) (mj_ex (some (.inl (-100000001))) I) := by
  have m0 := s_313
  refine mj_enter (by decide +kernel) (Nat.le_of_ble_eq_true rfl) ?_
  refine J_ald S_X10_ruin rfl rfl ?_
  refine J_ild S_X10_ruin rfl rfl ?_
  refine J_CVx S_X10_ruin rfl rfl (by assumption) (by omega) (by simp) (Y_isV hI rfl h) rfl ?_
  refine J_if S_X10_ruin rfl (fun c5 => False.elim (c5 rfl)) (fun c5 => ?_)
  refine J_C S_X10_ruin rfl ?_
  refine J_retI S_X10_ruin rfl ?_
  exact ⟨rfl, rfl⟩
theorem X10_ruin_ill (hI : IV (I 314)) {k : Nat} (hk : k < 8) (he : vk (I 314) k 4 = 1) (h : vk (I 314) k 5 = 1) : mj_R D_X10_ruin [.inr (some 313), .inl (nI k)] (mj_w I) (mj_ex (some (.inl (-100000002))) I) := by
  have m0 := s_313
  have hv : isV (I 314) (nI k) = true := by rw [isV_nI hk]; exact ex_t he
  have hb := C_X10_isBankrupt (I := I) hk
  rw [decide_eq_true h] at hb
  refine mj_enter (by decide +kernel) (Nat.le_of_ble_eq_true rfl) ?_
  refine J_ald S_X10_ruin rfl rfl ?_
  refine J_ild S_X10_ruin rfl rfl ?_
  refine J_CVx S_X10_ruin rfl rfl (by assumption) (by omega) (by simp) (Y_isV hI rfl hv) rfl ?_
  refine J_if S_X10_ruin rfl (fun c5 => ?_) (fun c5 => False.elim (absurd c5 (by decide)))
  refine J_ald S_X10_ruin rfl rfl ?_
  refine J_ild S_X10_ruin rfl rfl ?_
  refine J_CVx S_X10_ruin rfl rfl (by assumption) (by omega) (by simp) (hb) rfl ?_
  refine J_if S_X10_ruin rfl (fun c16 => False.elim (absurd c16 (by decide))) (fun c16 => ?_)
  refine J_C S_X10_ruin rfl ?_
  refine J_retI S_X10_ruin rfl ?_
  exact ⟨rfl, rfl⟩
theorem X10_ruin_ok (hI : IV (I 314)) {k : Nat} (hk : k < 8) (he : vk (I 314) k 4 = 1) (h : vk (I 314) k 5 = 0) {N : Nat} (hN : N = 1000) : mj_R D_X10_ruin [.inr (some 313), .inl (nI k)] (mj_w I) (mj_ex (some (.inl (rnV (I 314 9 * nI (arr (I 314) k)) (I 314 11) N 1 (vk (I 314) k 7)))) I) := by
  have m0 := s_313
  have m1 := s_314
  have hv : isV (I 314) (nI k) = true := by rw [isV_nI hk]; exact ex_t he
  have hb := C_X10_isBankrupt (I := I) hk
  rw [decide_eq_false (by rw [h]; decide)] at hb
  have har := C_X10_arrears (I := I) hI (k := k) (hI.ex hk he)
  rw [arrM_ex he] at har
  have e7 : I 314 (615 + 9 * k + 7) = vk (I 314) k 7 := rfl
  generalize arr (I 314) k = ar at *
  generalize vk (I 314) k 7 = d0 at *
  obtain ⟨lim, hlim⟩ : ∃ x, I 314 11 = x := ⟨_, rfl⟩
  obtain ⟨more, hmo⟩ : ∃ x, I 314 9 * nI ar = x := ⟨_, rfl⟩
  rw [hlim, hmo]
  have hend : ∀ R, (R : Int32) = rnV more lim N 1 d0 → mj_R D_X10_ruin [.inr (some 313), .inl (nI k)] (mj_w I) (mj_ex (some (.inl R)) I) := by
    intro R hRR
    refine mj_enter (by decide +kernel) (Nat.le_of_ble_eq_true rfl) ?_
    have key : ∀ (n t : Nat) (d : Int32), t + n = 1001 → R = rnV more lim n t d → mj_J D_X10_ruin (mj_ex (some (.inl R)) I) 51 [some (.inr (some 313)), some (.inl (nI k)), some (.inl d), some (.inl more), some (.inl (nI t))] [] (mj_w I) (0, 0) := by
      intro n
      induction n with
      | zero =>
        intro t d ht hr
        rw [rnV] at hr
        subst hr
        refine J_ild S_X10_ruin rfl rfl ?_
        refine J_C S_X10_ruin rfl ?_
        refine J_cmp S_X10_ruin rfl (fun c56 => ?_) (fun c56 => False.elim (c56 (nI_le (a := 1001) (by omega) (by omega))))
        refine J_C S_X10_ruin rfl ?_
        refine J_retI S_X10_ruin rfl ?_
        exact ⟨rfl, rfl⟩
      | succ n ih =>
        intro t d ht hr
        rw [rnV] at hr
        by_cases c : lim < d + more
        · rw [if_pos c] at hr
          subst hr
          refine J_ild S_X10_ruin rfl rfl ?_
          refine J_C S_X10_ruin rfl ?_
          refine J_cmp S_X10_ruin rfl (fun c56 => False.elim (nI_ge (b := 1001) (by omega) (by decide) c56)) (fun c56 => ?_)
          refine J_ild S_X10_ruin rfl rfl ?_
          refine J_ild S_X10_ruin rfl rfl ?_
          refine J_bin S_X10_ruin rfl ?_
          refine J_ist S_X10_ruin rfl rfl ?_
          refine J_ild S_X10_ruin rfl rfl ?_
          refine J_ald S_X10_ruin rfl rfl ?_
          refine J_getR S_X10_ruin rfl (o' := 314) (by assumption) (by omega) rfl ?_
          refine J_C S_X10_ruin rfl ?_
          refine J_iald S_X10_ruin rfl (by assumption) (by omega) (j := 11) rfl (by omega) (by decide) ?_
          rw [hlim]
          refine J_cmp S_X10_ruin rfl (fun c71 => False.elim (Int32.not_lt.mpr c71 c)) (fun c71 => ?_)
          refine J_ild S_X10_ruin rfl rfl ?_
          refine J_retI S_X10_ruin rfl ?_
          exact ⟨rfl, rfl⟩
        · rw [if_neg c] at hr
          refine J_ild S_X10_ruin rfl rfl ?_
          refine J_C S_X10_ruin rfl ?_
          refine J_cmp S_X10_ruin rfl (fun c56 => False.elim (nI_ge (b := 1001) (by omega) (by decide) c56)) (fun c56 => ?_)
          refine J_ild S_X10_ruin rfl rfl ?_
          refine J_ild S_X10_ruin rfl rfl ?_
          refine J_bin S_X10_ruin rfl ?_
          refine J_ist S_X10_ruin rfl rfl ?_
          refine J_ild S_X10_ruin rfl rfl ?_
          refine J_ald S_X10_ruin rfl rfl ?_
          refine J_getR S_X10_ruin rfl (o' := 314) (by assumption) (by omega) rfl ?_
          refine J_C S_X10_ruin rfl ?_
          refine J_iald S_X10_ruin rfl (by assumption) (by omega) (j := 11) rfl (by omega) (by decide) ?_
          rw [hlim]
          refine J_cmp S_X10_ruin rfl (fun c71 => ?_) (fun c71 => False.elim (c71 (Int32.not_lt.mp c)))
          refine J_inc S_X10_ruin rfl rfl rfl ?_
          refine J_goto S_X10_ruin rfl ?_
          rw [← nI_succ]
          exact ih (t + 1) _ (by omega) hr
    refine J_ald S_X10_ruin rfl rfl ?_
    refine J_ild S_X10_ruin rfl rfl ?_
    refine J_CVx S_X10_ruin rfl rfl (by assumption) (by omega) (by simp) (Y_isV hI rfl hv) rfl ?_
    refine J_if S_X10_ruin rfl (fun c5 => ?_) (fun c5 => False.elim (absurd c5 (by decide)))
    refine J_ald S_X10_ruin rfl rfl ?_
    refine J_ild S_X10_ruin rfl rfl ?_
    refine J_CVx S_X10_ruin rfl rfl (by assumption) (by omega) (by simp) (hb) rfl ?_
    refine J_if S_X10_ruin rfl (fun c16 => ?_) (fun c16 => False.elim (c16 rfl))
    refine J_ald S_X10_ruin rfl rfl ?_
    refine J_getR S_X10_ruin rfl (o' := 314) (by assumption) (by omega) rfl ?_
    refine J_ild S_X10_ruin rfl rfl ?_
    refine J_C S_X10_ruin rfl ?_
    refine J_CSx S_X10_ruin rfl rfl (by simp) (C_X10_v (k := k) (f := 7)) rfl ?_
    refine J_iald S_X10_ruin rfl (by assumption) (by omega) (j := 615 + 9 * k + 7) rfl (by omega) (by decide) ?_
    rw [e7]
    refine J_ist S_X10_ruin rfl rfl ?_
    refine J_ald S_X10_ruin rfl rfl ?_
    refine J_getR S_X10_ruin rfl (o' := 314) (by assumption) (by omega) rfl ?_
    refine J_C S_X10_ruin rfl ?_
    refine J_iald S_X10_ruin rfl (by assumption) (by omega) (j := 9) rfl (by omega) (by decide) ?_
    refine J_ald S_X10_ruin rfl rfl ?_
    refine J_ild S_X10_ruin rfl rfl ?_
    refine J_CVx S_X10_ruin rfl rfl (by assumption) (by omega) (by simp) (har) rfl ?_
    refine J_bin S_X10_ruin rfl ?_
    rw [hmo]
    refine J_ist S_X10_ruin rfl rfl ?_
    refine J_C S_X10_ruin rfl ?_
    refine J_ist S_X10_ruin rfl rfl ?_
    exact key N 1 d0 (by omega) hRR
  exact hend _ rfl
theorem P_ruin (h : Rl I) (a : Int32) : PRI D_X9_ruin D_X10_ruin [.inl a] I := by
  have hRl := h
  obtain ⟨o, n, L, hc, h2, h4⟩ := h
  have m0 := s_0
  have m1 := s_1
  have m2 := s_2
  have m4 := mj_S4.1
  have m5 := mj_B5.1
  have m6 : mj_sh 6 = (2, 3) := mj_B5.2.1
  have m52 := s_52
  have m294 := s_294
  have hR : RB I 5 (I 314) := hc.1.1
  have hI : IV (I 314) := hc.1.2.1
  have hZ : ZB (I 314) := hc.1.2.2.1
  have hn : n ≤ 5 := hc.2.1.2.2.2.1
  have hle : tn (I 314 0) ≤ 200 := hI.1.2
  cases hv : isV (I 314) a
  · exact PR_no hRl (X9_ruin_no hR hI hv) (fun I1 hu => X10_ruin_no (by rw [hu 314 (by decide)]; exact hI) (by rw [hu 314 (by decide)]; exact hv))
  · obtain ⟨k, rfl, hk, he, -, h01⟩ := isV_y hI hv
    rcases h01 with h5 | h5
    · obtain ⟨N, hN⟩ : ∃ N, N = 1000 := ⟨_, rfl⟩
      refine PR_no hRl (X9_ruin_ok hR hI hk he h5 hN) (fun I1 hu => ?_)
      have e := hu 314 (by decide)
      have g := X10_ruin_ok (I := I1) (k := k) (by rw [e]; exact hI) hk (by rw [e]; exact he) (by rw [e]; exact h5) hN
      rw [e] at g
      exact g
    · exact PR_no hRl (X9_ruin_ill hR hI hk he h5) (fun I1 hu => X10_ruin_ill (by rw [hu 314 (by decide)]; exact hI) hk (by rw [hu 314 (by decide)]; exact he) (by rw [hu 314 (by decide)]; exact h5))
/-! needed -/
theorem need_bk {v : mv} (hZ : ZB v) {k : Nat} (hk : k < 8) (he : vk v k 4 = 1) (h : vk v k 5 = 1) : need v k = 0 := by
  unfold need arr
  rw [hZ k hk he h, if_pos h, show nI 0 = 0 from nI_0, Int32.zero_mul, Int32.add_zero]
theorem smN_sm {v : mv} (hI : IV v) (hZ : ZB v) : ∀ n, n ≤ tn (v 1) → smN v n = sm (ex v) (need v) n
  | 0, _ => rfl
  | n + 1, h => by
    have hl := hI.2.1.2
    rw [smN, sm, smN_sm hI hZ n (by omega)]
    rcases hI.b01 (show n < 8 by omega) with h4 | h4
    · rw [ex_f h4, Bool.false_and, if_neg (by decide), if_neg (by decide), Int32.add_zero]
    · rw [ex_t h4, Bool.true_and, if_pos rfl]
      rcases rg_01 (hI.wv (show n < 8 by omega) h4).2.2.2.2.2.2.2.2.2.1 with h5 | h5
      · rw [decide_eq_true h5, if_pos rfl]
      · rw [decide_eq_false (by rw [h5]; decide), if_neg (by decide), need_bk hZ (by omega) h4 h5]
theorem X9_needed_ok {w : mv} (hR : RB I 5 w) (hI : IV w) : mj_R D_X9_needed [.inr (some 0)] (mj_w I) (mj_ex (some (.inl (sm (ex w) (need w) 8))) I) := by
  have m0 := s_0
  have m4 := mj_S4.1
  have m5 := mj_B5.1
  refine mj_enter (by decide +kernel) (Nat.le_of_ble_eq_true rfl) ?_
  refine J_ald S_X9_needed rfl rfl ?_
  refine J_getR S_X9_needed rfl (o' := 4) (by assumption) (by omega) rfl ?_
  refine J_getR S_X9_needed rfl (o' := 5) (by assumption) (by omega) rfl ?_
  refine J_CVx S_X9_needed rfl rfl (by assumption) (by omega) (by simp) (C_X0_allNeeds mj_B5 hR hI) rfl ?_
  refine J_retI S_X9_needed rfl ?_
  exact ⟨rfl, rfl⟩
theorem X10_needed_ok (hI : IV (I 314)) (hZ : ZB (I 314)) : mj_R D_X10_needed [.inr (some 313)] (mj_w I) (mj_ex (some (.inl (sm (ex (I 314)) (need (I 314)) 8))) I) := by
  have m0 := s_313
  have m1 := s_314
  rw [sm_tl hI, ← smN_sm hI hZ _ (Nat.le_refl _)]
  obtain ⟨df, hdf, hdl⟩ : ∃ d, I 314 1 = nI d ∧ d ≤ 8 := ⟨_, hI.2.1.1, hI.2.1.2⟩
  have hdt : tn (I 314 1) = df := by rw [hdf, tn_nI (by omega)]
  rw [hdt]
  refine mj_enter (by decide +kernel) (Nat.le_of_ble_eq_true rfl) ?_
  have key : ∀ (s k : Nat), k + s = df → mj_J D_X10_needed (mj_ex (some (.inl (smN (I 314) df))) I) 4 [some (.inr (some 313)), some (.inl (smN (I 314) k)), some (.inl (nI k))] [] (mj_w I) (0, 0) := by
    intro s
    induction s with
    | zero =>
      intro k hk
      obtain rfl : k = df := by omega
      refine J_ild S_X10_needed rfl rfl ?_
      refine J_ald S_X10_needed rfl rfl ?_
      refine J_getR S_X10_needed rfl (o' := 314) (by assumption) (by omega) rfl ?_
      refine J_C S_X10_needed rfl ?_
      refine J_iald S_X10_needed rfl (by assumption) (by omega) (j := 1) rfl (by omega) (by decide) ?_
      rw [hdf]
      refine J_cmp S_X10_needed rfl (fun c11 => ?_) (fun c11 => False.elim (c11 (Int32.le_refl _)))
      refine J_ild S_X10_needed rfl rfl ?_
      refine J_retI S_X10_needed rfl ?_
      exact ⟨rfl, rfl⟩
    | succ s ih =>
      intro k hk
      have hkd : k < df := by omega
      have hk8 : k < 8 := by omega
      have hiv := Y_isV (I := I) hI rfl (x := nI k) (isV_nI hk8)
      have hib := C_X10_isBankrupt (I := I) hk8
      have nx : ∀ x, x = (if (ex (I 314) k && decide (vk (I 314) k 5 = 0)) = true then need (I 314) k else 0) → mj_J D_X10_needed (mj_ex (some (.inl (smN (I 314) df))) I) 4 [some (.inr (some 313)), some (.inl (smN (I 314) k + x)), some (.inl (nI k + 1))] [] (mj_w I) (0, 0) := by
        intro x hx
        rw [hx, ← nI_succ]
        exact ih (k + 1) (by omega)
      cases he : ex (I 314) k
      · rw [he] at hiv
        refine J_ild S_X10_needed rfl rfl ?_
        refine J_ald S_X10_needed rfl rfl ?_
        refine J_getR S_X10_needed rfl (o' := 314) (by assumption) (by omega) rfl ?_
        refine J_C S_X10_needed rfl ?_
        refine J_iald S_X10_needed rfl (by assumption) (by omega) (j := 1) rfl (by omega) (by decide) ?_
        rw [hdf]
        refine J_cmp S_X10_needed rfl (fun c11 => False.elim (nI_ge hkd (by omega) c11)) (fun c11 => ?_)
        refine J_ild S_X10_needed rfl rfl ?_
        refine J_ald S_X10_needed rfl rfl ?_
        refine J_ild S_X10_needed rfl rfl ?_
        refine J_CVx S_X10_needed rfl rfl (by assumption) (by omega) (by simp) (hiv) rfl ?_
        refine J_if S_X10_needed rfl (fun c20 => ?_) (fun c20 => False.elim (c20 rfl))
        refine J_C S_X10_needed rfl ?_
        refine J_bin S_X10_needed rfl ?_
        refine J_ist S_X10_needed rfl rfl ?_
        refine J_inc S_X10_needed rfl rfl rfl ?_
        refine J_goto S_X10_needed rfl ?_
        exact nx 0 (by rw [he]; rfl)
      · rw [he] at hiv
        have h4 : vk (I 314) k 4 = 1 := of_decide_eq_true he
        rcases rg_01 (hI.wv hk8 h4).2.2.2.2.2.2.2.2.2.1 with h5 | h5
        · rw [decide_eq_false (by rw [h5]; decide)] at hib
          refine J_ild S_X10_needed rfl rfl ?_
          refine J_ald S_X10_needed rfl rfl ?_
          refine J_getR S_X10_needed rfl (o' := 314) (by assumption) (by omega) rfl ?_
          refine J_C S_X10_needed rfl ?_
          refine J_iald S_X10_needed rfl (by assumption) (by omega) (j := 1) rfl (by omega) (by decide) ?_
          rw [hdf]
          refine J_cmp S_X10_needed rfl (fun c11 => False.elim (nI_ge hkd (by omega) c11)) (fun c11 => ?_)
          refine J_ild S_X10_needed rfl rfl ?_
          refine J_ald S_X10_needed rfl rfl ?_
          refine J_ild S_X10_needed rfl rfl ?_
          refine J_CVx S_X10_needed rfl rfl (by assumption) (by omega) (by simp) (hiv) rfl ?_
          refine J_if S_X10_needed rfl (fun c20 => False.elim (absurd c20 (by decide))) (fun c20 => ?_)
          refine J_ald S_X10_needed rfl rfl ?_
          refine J_ild S_X10_needed rfl rfl ?_
          refine J_CVx S_X10_needed rfl rfl (by assumption) (by omega) (by simp) (hib) rfl ?_
          refine J_if S_X10_needed rfl (fun c28 => False.elim (c28 rfl)) (fun c28 => ?_)
          refine J_ald S_X10_needed rfl rfl ?_
          refine J_ild S_X10_needed rfl rfl ?_
          refine J_CVx S_X10_needed rfl rfl (by assumption) (by omega) (by simp) (C_X10_need hI hk8 h4) rfl ?_
          refine J_goto S_X10_needed rfl ?_
          refine J_bin S_X10_needed rfl ?_
          refine J_ist S_X10_needed rfl rfl ?_
          refine J_inc S_X10_needed rfl rfl rfl ?_
          refine J_goto S_X10_needed rfl ?_
          exact nx _ (by rw [he, decide_eq_true h5]; rfl)
        · rw [decide_eq_true h5] at hib
          refine J_ild S_X10_needed rfl rfl ?_
          refine J_ald S_X10_needed rfl rfl ?_
          refine J_getR S_X10_needed rfl (o' := 314) (by assumption) (by omega) rfl ?_
          refine J_C S_X10_needed rfl ?_
          refine J_iald S_X10_needed rfl (by assumption) (by omega) (j := 1) rfl (by omega) (by decide) ?_
          rw [hdf]
          refine J_cmp S_X10_needed rfl (fun c11 => False.elim (nI_ge hkd (by omega) c11)) (fun c11 => ?_)
          refine J_ild S_X10_needed rfl rfl ?_
          refine J_ald S_X10_needed rfl rfl ?_
          refine J_ild S_X10_needed rfl rfl ?_
          refine J_CVx S_X10_needed rfl rfl (by assumption) (by omega) (by simp) (hiv) rfl ?_
          refine J_if S_X10_needed rfl (fun c20 => False.elim (absurd c20 (by decide))) (fun c20 => ?_)
          refine J_ald S_X10_needed rfl rfl ?_
          refine J_ild S_X10_needed rfl rfl ?_
          refine J_CVx S_X10_needed rfl rfl (by assumption) (by omega) (by simp) (hib) rfl ?_
          refine J_if S_X10_needed rfl (fun c28 => ?_) (fun c28 => False.elim (absurd c28 (by decide)))
          refine J_C S_X10_needed rfl ?_
          refine J_bin S_X10_needed rfl ?_
          refine J_ist S_X10_needed rfl rfl ?_
          refine J_inc S_X10_needed rfl rfl rfl ?_
          refine J_goto S_X10_needed rfl ?_
          exact nx 0 (by rw [he, decide_eq_false (by rw [h5]; decide)]; rfl)
  refine J_C S_X10_needed rfl ?_
  refine J_ist S_X10_needed rfl rfl ?_
  refine J_C S_X10_needed rfl ?_
  refine J_ist S_X10_needed rfl rfl ?_
  exact key df 0 (by omega)
theorem P_needed (h : Rl I) : PRI D_X9_needed D_X10_needed [] I := by
  have hRl := h
  obtain ⟨o, n, L, hc, h2, h4⟩ := h
  have m0 := s_0
  have m1 := s_1
  have m2 := s_2
  have m4 := mj_S4.1
  have m5 := mj_B5.1
  have m6 : mj_sh 6 = (2, 3) := mj_B5.2.1
  have m52 := s_52
  have m294 := s_294
  have hR : RB I 5 (I 314) := hc.1.1
  have hI : IV (I 314) := hc.1.2.1
  have hZ : ZB (I 314) := hc.1.2.2.1
  have hn : n ≤ 5 := hc.2.1.2.2.2.1
  have hle : tn (I 314 0) ≤ 200 := hI.1.2
  refine PR_no hRl (X9_needed_ok hR hI) (fun I1 hu => ?_)
  have e := hu 314 (by decide)
  have g := X10_needed_ok (I := I1) (by rw [e]; exact hI) (by rw [e]; exact hZ)
  rw [e] at g
  exact g
/-! since -/
theorem X9_since_no {w : mv} (hR : RB I 5 w) (hI : IV w) {a : Int32} (h : isV w a = false) : mj_R D_X9_since [.inr (some 0), .inl a] (mj_w I) (mj_ex (some (.inl (-100000001))) I) := by
  have m0 := s_0
  have m4 := mj_S4.1
  have m5 := mj_B5.1
  refine mj_enter (by decide +kernel) (Nat.le_of_ble_eq_true rfl) ?_
  refine J_ald S_X9_since rfl rfl ?_
  refine J_getR S_X9_since rfl (o' := 4) (by assumption) (by omega) rfl ?_
  refine J_getR S_X9_since rfl (o' := 5) (by assumption) (by omega) rfl ?_
  refine J_ild S_X9_since rfl rfl ?_
  refine J_CVx S_X9_since rfl rfl (by assumption) (by omega) (by simp) (Z_find_n hR hI h) rfl ?_
  refine J_nnN S_X9_since rfl ?_
  refine J_C S_X9_since rfl ?_
  refine J_retI S_X9_since rfl ?_
  exact ⟨rfl, rfl⟩
theorem X9_since_ok {w : mv} (hR : RB I 5 w) (hI : IV w) {k : Nat} (hk : k < 8) (he : vk w k 4 = 1) : mj_R D_X9_since [.inr (some 0), .inl (nI k)] (mj_w I) (mj_px (fun r I' => r = some (.inl (nI (ltn (fun n => aq w n k) (tn (w 0))))) ∧ SC I I')) := by
  have m0 := s_0
  have m4 := mj_S4.1
  have m5 := mj_B5.1
  have m294 := s_294
  have hlt := C_X4_lastTurn (I := I) mj_B5 hR hI (by omega) hk he
  refine mj_enter (by decide +kernel) (Nat.le_of_ble_eq_true rfl) ?_
  refine J_ald S_X9_since rfl rfl ?_
  refine J_getR S_X9_since rfl (o' := 4) (by assumption) (by omega) rfl ?_
  refine J_getR S_X9_since rfl (o' := 5) (by assumption) (by omega) rfl ?_
  refine J_ild S_X9_since rfl rfl ?_
  refine J_CVx S_X9_since rfl rfl (by assumption) (by omega) (by simp) (Z_find_y hR hI hk he) rfl ?_
  refine J_nnS S_X9_since rfl ?_
  refine J_ald S_X9_since rfl rfl ?_
  refine J_getR S_X9_since rfl (o' := 294) (by assumption) (by omega) rfl ?_
  refine J_ald S_X9_since rfl rfl ?_
  refine J_getR S_X9_since rfl (o' := 4) (by assumption) (by omega) rfl ?_
  refine J_getR S_X9_since rfl (o' := 5) (by assumption) (by omega) rfl ?_
  refine J_ild S_X9_since rfl rfl ?_
  refine J_CV S_X9_since rfl rfl (by assumption) (by omega) (by simp) (hlt) ?_
  rintro _ _ ⟨I2, rfl, rfl, g⟩
  refine J_retI S_X9_since rfl ?_
  exact ⟨I2, rfl, rfl, sc_rp g⟩
theorem X10_since_no (hI : IV (I 314)) {a : Int32} (h : isV (I 314) a = false) : mj_R D_X10_since [.inr (some 313), .inl a] (mj_w I) (mj_ex (some (.inl (-100000001))) I) := by
  have m0 := s_313
  refine mj_enter (by decide +kernel) (Nat.le_of_ble_eq_true rfl) ?_
  refine J_ald S_X10_since rfl rfl ?_
  refine J_ild S_X10_since rfl rfl ?_
  refine J_CVx S_X10_since rfl rfl (by assumption) (by omega) (by simp) (Y_isV hI rfl h) rfl ?_
  refine J_if S_X10_since rfl (fun c5 => False.elim (c5 rfl)) (fun c5 => ?_)
  refine J_C S_X10_since rfl ?_
  refine J_retI S_X10_since rfl ?_
  exact ⟨rfl, rfl⟩
theorem X10_since_ok (hI : IV (I 314)) {k : Nat} (hk : k < 8) (he : vk (I 314) k 4 = 1) : mj_R D_X10_since [.inr (some 313), .inl (nI k)] (mj_w I) (mj_px (fun r I' => r = some (.inl (nI (ltn (fun n => aq (I 314) n k) (tn (I 314 0))))) ∧ Ms I I')) := by
  have m0 := s_313
  have m1 := s_314
  have hle := hI.1.2
  have e0 := hI.1.1
  have hv : isV (I 314) (nI k) = true := by rw [isV_nI hk]; exact ex_t he
  generalize hN : tn (I 314 0) = N at *
  have haa := fun (J : mj_I) (hJ : Ms I J) (n : Nat) (hn : n ≤ N) => (show mj_R D_X10_answerAt [.inr (some 313), .inl (nI k), .inl (nI n)] (mj_w J) (mj_px (fun r I' => r = some (.inl (aq (I 314) n k)) ∧ Ms I I')) from by
    have e := hJ.1 314 (by decide) (by decide) (by decide) (by decide) (by decide)
    have g := C_X10_answerAt (I := J) (by rw [e]; exact hI) hk (n := n) (by rw [e, hN]; exact hn)
    rw [e] at g
    exact R_imp g (fun r I' q => ⟨q.1, ms_tr hJ q.2⟩))
  generalize hf : (fun n => aq (I 314) n k) = f
  have haf : ∀ n, aq (I 314) n k = f n := fun n => congrFun hf n
  have key : ∀ (p : Nat) (J : mj_I), p ≤ N → Ms I J → f p = f N → ltn f N = ltn f p → mj_J D_X10_since (mj_px (fun r I' => r = some (.inl (nI (ltn f N))) ∧ Ms I I')) 25 [some (.inr (some 313)), some (.inl (nI k)), some (.inl (nI p)), some (.inl (f N))] [] (mj_w J) (0, 0) := by
    intro p
    induction p with
    | zero =>
      intro J hp hJ h1 h2
      refine J_ild S_X10_since rfl rfl ?_
      refine J_if S_X10_since rfl (fun c26 => ?_) (fun c26 => False.elim (c26 (by rw [nI_0]; decide)))
      refine J_ild S_X10_since rfl rfl ?_
      refine J_retI S_X10_since rfl ?_
      rw [h2]; exact ⟨J, rfl, rfl, hJ⟩
    | succ p ih =>
      intro J hp hJ h1 h2
      have ha := haa J hJ p (by omega)
      rw [haf] at ha
      have hpred : nI (p + 1) - 1 = nI p := by rw [show (1 : Int32) = nI 1 from rfl, pk_sub (by omega)]; rfl
      have np : ¬ nI (p + 1) ≤ 0 := fun c => nI_ge (show 0 < p + 1 by omega) (by omega) c
      by_cases c : f p = f N
      · refine J_ild S_X10_since rfl rfl ?_
        refine J_if S_X10_since rfl (fun c26 => False.elim (np c26)) (fun c26 => ?_)
        refine J_ald S_X10_since rfl rfl ?_
        refine J_ild S_X10_since rfl rfl ?_
        refine J_ild S_X10_since rfl rfl ?_
        refine J_C S_X10_since rfl ?_
        refine J_bin S_X10_since rfl ?_
        rw [hpred]
        refine J_CV S_X10_since rfl rfl (by assumption) (by omega) (by simp) (ha) ?_
        rintro _ _ ⟨J2, rfl, rfl, g⟩
        refine J_ild S_X10_since rfl rfl ?_
        refine J_cmp S_X10_since rfl (fun c38 => False.elim (c38 c)) (fun c38 => ?_)
        refine J_inc S_X10_since rfl rfl rfl ?_
        refine J_goto S_X10_since rfl ?_
        rw [pk_m1]
        exact ih J2 (by omega) g c (by rw [h2, ltn, if_pos (h1.trans c.symm)])
      · refine J_ild S_X10_since rfl rfl ?_
        refine J_if S_X10_since rfl (fun c26 => False.elim (np c26)) (fun c26 => ?_)
        refine J_ald S_X10_since rfl rfl ?_
        refine J_ild S_X10_since rfl rfl ?_
        refine J_ild S_X10_since rfl rfl ?_
        refine J_C S_X10_since rfl ?_
        refine J_bin S_X10_since rfl ?_
        rw [hpred]
        refine J_CV S_X10_since rfl rfl (by assumption) (by omega) (by simp) (ha) ?_
        rintro _ _ ⟨J2, rfl, rfl, g⟩
        refine J_ild S_X10_since rfl rfl ?_
        refine J_cmp S_X10_since rfl (fun c38 => ?_) (fun c38 => False.elim (c c38))
        refine J_ild S_X10_since rfl rfl ?_
        refine J_retI S_X10_since rfl ?_
        refine ⟨J2, rfl, ?_, g⟩
        rw [h2, ltn, if_neg (by rw [h1]; exact fun q => c q.symm)]
  refine mj_enter (by decide +kernel) (Nat.le_of_ble_eq_true rfl) ?_
  have ha := haa I ms_rf N (Nat.le_refl N)
  rw [haf] at ha
  refine J_ald S_X10_since rfl rfl ?_
  refine J_ild S_X10_since rfl rfl ?_
  refine J_CVx S_X10_since rfl rfl (by assumption) (by omega) (by simp) (Y_isV hI rfl hv) rfl ?_
  refine J_if S_X10_since rfl (fun c5 => ?_) (fun c5 => False.elim (absurd c5 (by decide)))
  refine J_ald S_X10_since rfl rfl ?_
  refine J_getR S_X10_since rfl (o' := 314) (by assumption) (by omega) rfl ?_
  refine J_C S_X10_since rfl ?_
  refine J_iald S_X10_since rfl (by assumption) (by omega) (j := 0) rfl (by omega) (by decide) ?_
  rw [e0]
  refine J_ist S_X10_since rfl rfl ?_
  refine J_ald S_X10_since rfl rfl ?_
  refine J_ild S_X10_since rfl rfl ?_
  refine J_ild S_X10_since rfl rfl ?_
  refine J_CV S_X10_since rfl rfl (by assumption) (by omega) (by simp) (ha) ?_
  rintro _ _ ⟨J2, rfl, rfl, g⟩
  refine J_ist S_X10_since rfl rfl ?_
  exact key N J2 (Nat.le_refl N) g rfl rfl
theorem P_since (h : Rl I) (a : Int32) : PRI D_X9_since D_X10_since [.inl a] I := by
  have hRl := h
  obtain ⟨o, n, L, hc, h2, h4⟩ := h
  have m0 := s_0
  have m1 := s_1
  have m2 := s_2
  have m4 := mj_S4.1
  have m5 := mj_B5.1
  have m6 : mj_sh 6 = (2, 3) := mj_B5.2.1
  have m52 := s_52
  have m294 := s_294
  have hR : RB I 5 (I 314) := hc.1.1
  have hI : IV (I 314) := hc.1.2.1
  have hZ : ZB (I 314) := hc.1.2.2.1
  have hn : n ≤ 5 := hc.2.1.2.2.2.1
  have hle : tn (I 314 0) ≤ 200 := hI.1.2
  cases hv : isV (I 314) a
  · exact PR_no hRl (X9_since_no hR hI hv) (fun I1 hu => X10_since_no (by rw [hu 314 (by decide)]; exact hI) (by rw [hu 314 (by decide)]; exact hv))
  · obtain ⟨k, rfl, hk, he, -, -⟩ := isV_y hI hv
    refine PR_look hRl (X9_since_ok hR hI hk he) (fun I1 hu => ?_)
    have e := hu 314 (by decide)
    have g := X10_since_ok (I := I1) (k := k) (by rw [e]; exact hI) hk (by rw [e]; exact he)
    rw [e] at g
    exact g
/-! settled -/
theorem X9_settled_no {a b : Int32} (h : ¬ ((0 ≤ a ∧ a ≤ 2) ∧ (1 ≤ b ∧ b ≤ 9999))) : mj_R D_X9_settled [.inr (some 0), .inl a, .inl b] (mj_w I) (mj_ex (some (.inl (-100000001))) I) := by
  have hs := C_X9_isSet (I := I) (j := 5) (x := a) (by decide)
  refine mj_enter (by decide +kernel) (Nat.le_of_ble_eq_true rfl) ?_
  by_cases h1 : 0 ≤ a ∧ a ≤ 2
  · rw [show sOK 5 a = true by unfold sOK; rw [decide_eq_true (show nI (loS 5) ≤ a from h1.1), decide_eq_true (show a ≤ nI (hiS 5) from h1.2)]; rfl] at hs
    refine J_C S_X9_settled rfl ?_
    refine J_ild S_X9_settled rfl rfl ?_
    refine J_CSx S_X9_settled rfl rfl (by simp) (hs) rfl ?_
    refine J_if S_X9_settled rfl (fun c5 => False.elim (absurd c5 (by decide))) (fun c5 => ?_)
    refine J_ild S_X9_settled rfl rfl ?_
    refine J_C S_X9_settled rfl ?_
    refine J_cmp S_X9_settled rfl (fun c10 => ?_) (fun c10 => ?_)
    · refine J_C S_X9_settled rfl ?_
      refine J_retI S_X9_settled rfl ?_
      exact ⟨rfl, rfl⟩
    · refine J_ild S_X9_settled rfl rfl ?_
      refine J_C S_X9_settled rfl ?_
      refine J_cmp S_X9_settled rfl (fun c17 => ?_) (fun c17 => ?_)
      · exact absurd ⟨h1, Int32.not_lt.mp c10, c17⟩ h
      · refine J_C S_X9_settled rfl ?_
        refine J_retI S_X9_settled rfl ?_
        exact ⟨rfl, rfl⟩
  · rw [show sOK 5 a = false by
      unfold sOK
      by_cases c : 0 ≤ a
      · rw [decide_eq_false (show ¬ a ≤ nI (hiS 5) from fun d => h1 ⟨c, d⟩), Bool.and_false]
      · rw [decide_eq_false (show ¬ nI (loS 5) ≤ a from c), Bool.false_and]] at hs
    refine J_C S_X9_settled rfl ?_
    refine J_ild S_X9_settled rfl rfl ?_
    refine J_CSx S_X9_settled rfl rfl (by simp) (hs) rfl ?_
    refine J_if S_X9_settled rfl (fun c5 => ?_) (fun c5 => False.elim (c5 rfl))
    refine J_C S_X9_settled rfl ?_
    refine J_retI S_X9_settled rfl ?_
    exact ⟨rfl, rfl⟩
theorem X9_settled_ok {w : mv} (hR : RB I 5 w) (hI : IV w) {r c m : Nat} {t : Nat → Nat} (hr : r < 3) (hc1 : 1 ≤ c) (hc : c ≤ 9999) (ht : ∀ i, t i < 8) (hm : m ≤ 8) (hO : OR w r (wt w) m t) : mj_R D_X9_settled [.inr (some 0), .inl (nI r), .inl (nI c)] (mj_w I) (mj_px (fun a I' => a = some (.inl (nI (msk (stV w t m r c) 8))) ∧ SC I I')) := by
  have m0 := s_0
  have m4 := mj_S4.1
  have m5 := mj_B5.1
  have m298 := mj_B298.1
  have hle := hI.1.2
  have hs := C_X9_isSet (I := I) (j := 5) (x := nI r) (by decide)
  rw [show sOK 5 (nI r) = true by unfold sOK; rw [decide_eq_true (show nI (loS 5) ≤ nI r from nI_le (Nat.zero_le r) (by omega)), decide_eq_true (show nI r ≤ nI (hiS 5) from nI_le (show r ≤ 2 by omega) (by decide))]; rfl] at hs
  have hcp := C_X0_copyFrom (I := I) mj_B298 mj_B5 (by omega) hR hI
  have hfI := fc_I hI hr hc
  have hfO := fc_O (c := c) hI hO
  have e14 : tn (fcV w r c 14) = r := by unfold fcV; rw [up_s, tn_nI (by omega)]
  have hpe := fun (J : mj_I) (h : RB J 298 (fcV w r c)) => C_X0_payEvery (I := J) mj_B298 h hfI ht hm (by rw [e14]; exact hfO)
  have hpI := pv_I ht hfI (n := m) (fun i hi => (OR_mem hfO hi).2.1) m (Nat.le_refl m)
  have hso := fun (J : mj_I) (h : RB J 298 (pvV (fcV w r c) t m)) => C_X0_setOf (I := J) mj_B298 h hpI (w := 4) (by decide)
  refine mj_enter (by decide +kernel) (Nat.le_of_ble_eq_true rfl) ?_
  refine J_C S_X9_settled rfl ?_
  refine J_ild S_X9_settled rfl rfl ?_
  refine J_CSx S_X9_settled rfl rfl (by simp) (hs) rfl ?_
  refine J_if S_X9_settled rfl (fun c5 => False.elim (absurd c5 (by decide))) (fun c5 => ?_)
  refine J_ild S_X9_settled rfl rfl ?_
  refine J_C S_X9_settled rfl ?_
  refine J_cmp S_X9_settled rfl (fun c10 => False.elim (nI_nlt (b := 1) hc1 (by omega) c10)) (fun c10 => ?_)
  refine J_ild S_X9_settled rfl rfl ?_
  refine J_C S_X9_settled rfl ?_
  refine J_cmp S_X9_settled rfl (fun c17 => ?_) (fun c17 => False.elim (c17 (nI_le (b := 9999) hc (by decide))))
  refine J_ald S_X9_settled rfl rfl ?_
  refine J_getR S_X9_settled rfl (o' := 298) (by assumption) (by omega) rfl ?_
  refine J_ald S_X9_settled rfl rfl ?_
  refine J_getR S_X9_settled rfl (o' := 4) (by assumption) (by omega) rfl ?_
  refine J_getR S_X9_settled rfl (o' := 5) (by assumption) (by omega) rfl ?_
  refine J_CV S_X9_settled rfl rfl (by assumption) (by omega) (by simp) (hcp) ?_
  rintro _ _ ⟨I1, rfl, rfl, g1, g2⟩
  refine J_ald S_X9_settled rfl rfl ?_
  refine J_getR S_X9_settled rfl (o' := 298) (by assumption) (by omega) rfl ?_
  refine J_ild S_X9_settled rfl rfl ?_
  refine J_putI S_X9_settled rfl (by assumption) (by omega) ?_
  refine J_ald S_X9_settled rfl rfl ?_
  refine J_getR S_X9_settled rfl (o' := 298) (by assumption) (by omega) rfl ?_
  refine J_C S_X9_settled rfl ?_
  refine J_ild S_X9_settled rfl rfl ?_
  refine J_CVx S_X9_settled rfl rfl (by assumption) (by omega) (by simp) (C_X0_changeSetting mj_B298 (i := 5) (by decide)) rfl ?_
  refine J_ald S_X9_settled rfl rfl ?_
  refine J_getR S_X9_settled rfl (o' := 298) (by assumption) (by omega) rfl ?_
  refine J_CV S_X9_settled rfl rfl (by assumption) (by omega) (by simp) (hpe _ (RB_st (i := 5) (x := nI r) (by rw [up_n (by decide)]; exact hle) (RB_ac (i := 1) (x := nI c) hle g1 (by decide)) (by decide))) ?_
  rintro _ _ ⟨I2, rfl, rfl, g3, g4⟩
  refine J_pop S_X9_settled rfl ?_
  refine J_ald S_X9_settled rfl rfl ?_
  refine J_getR S_X9_settled rfl (o' := 298) (by assumption) (by omega) rfl ?_
  refine J_C S_X9_settled rfl ?_
  refine J_CVx S_X9_settled rfl rfl (by assumption) (by omega) (by simp) (hso I2 g3) rfl ?_
  refine J_retI S_X9_settled rfl ?_
  refine ⟨I2, rfl, rfl, ?_⟩
  have hF : ∀ q, (q < 298 ∨ 298 + 15 ≤ q) → I2 q = I q := fun q hq => by rw [g4 q hq, mj_up_ne (by omega), mj_up_ne (by omega), g2 q hq]
  exact ⟨fun q h1 _ => hF q (by omega), fun q h1 => hF q (by omega)⟩
theorem X10_settled_no {a b : Int32} (h : ¬ ((0 ≤ a ∧ a ≤ 2) ∧ (1 ≤ b ∧ b ≤ 9999))) : mj_R D_X10_settled [.inr (some 313), .inl a, .inl b] (mj_w I) (mj_ex (some (.inl (-100000001))) I) := by
  refine mj_enter (by decide +kernel) (Nat.le_of_ble_eq_true rfl) ?_
  by_cases h1 : 0 ≤ a ∧ a ≤ 2
  · refine J_ild S_X10_settled rfl rfl ?_
    refine J_C S_X10_settled rfl ?_
    refine J_C S_X10_settled rfl ?_
    refine J_CSx S_X10_settled rfl rfl (by simp) (in_t h1) rfl ?_
    refine J_if S_X10_settled rfl (fun c6 => False.elim (absurd c6 (by decide))) (fun c6 => ?_)
    refine J_ild S_X10_settled rfl rfl ?_
    refine J_C S_X10_settled rfl ?_
    refine J_C S_X10_settled rfl ?_
    refine J_CSx S_X10_settled rfl rfl (by simp) (in_f (fun h2 => h ⟨h1, h2⟩)) rfl ?_
    refine J_if S_X10_settled rfl (fun c17 => False.elim (c17 rfl)) (fun c17 => ?_)
    refine J_C S_X10_settled rfl ?_
    refine J_retI S_X10_settled rfl ?_
    exact ⟨rfl, rfl⟩
  · refine J_ild S_X10_settled rfl rfl ?_
    refine J_C S_X10_settled rfl ?_
    refine J_C S_X10_settled rfl ?_
    refine J_CSx S_X10_settled rfl rfl (by simp) (in_f h1) rfl ?_
    refine J_if S_X10_settled rfl (fun c6 => ?_) (fun c6 => False.elim (c6 rfl))
    refine J_C S_X10_settled rfl ?_
    refine J_retI S_X10_settled rfl ?_
    exact ⟨rfl, rfl⟩
theorem P_settled (h : Rl I) (a b : Int32) : PRI D_X9_settled D_X10_settled [.inl a, .inl b] I := by
  have hRl := h
  obtain ⟨o, n, L, hc, h2, h4⟩ := h
  have m0 := s_0
  have m1 := s_1
  have m2 := s_2
  have m4 := mj_S4.1
  have m5 := mj_B5.1
  have m6 : mj_sh 6 = (2, 3) := mj_B5.2.1
  have m52 := s_52
  have m294 := s_294
  have hR : RB I 5 (I 314) := hc.1.1
  have hI : IV (I 314) := hc.1.2.1
  have hZ : ZB (I 314) := hc.1.2.2.1
  have hn : n ≤ 5 := hc.2.1.2.2.2.1
  have hle : tn (I 314 0) ≤ 200 := hI.1.2
  by_cases hno : (0 ≤ a ∧ a ≤ 2) ∧ (1 ≤ b ∧ b ≤ 9999)
  · obtain ⟨q1, q2⟩ := hno
    obtain ⟨r, hr, rfl⟩ := i_rng (n := 2) (by decide) q1.1 q1.2
    obtain ⟨c, hcc, rfl⟩ := i_rng (n := 9999) (by decide) (Int32.le_trans (show (0 : Int32) ≤ 1 by decide) q2.1) q2.2
    have hc1 : 1 ≤ c := (nI_leI (a := 1) (by decide) (by omega)).mp q2.1
    obtain ⟨m, t, hm, h8, hO⟩ := OR_get (v := I 314) r
    refine PR_look hRl (X9_settled_ok hR hI (show r < 3 by omega) hc1 hcc h8 hm hO) (fun I1 hu => ?_)
    have e := hu 314 (by decide)
    have g := C_X10_settled (I := I1) (r := r) (c := c) (n := m) (t := t) (by rw [e]; exact hI) h8 hm (by omega) hcc hc1 (by rw [e]; exact hO)
    rw [e] at g
    exact g
  · exact PR_no hRl (X9_settled_no hno) (fun I1 _ => X10_settled_no hno)
/-! view -/
theorem X9_view_no {w : mv} (hR : RB I 5 w) (hI : IV w) {a b : Int32} (h : ¬ (isV w a = true ∧ (0 ≤ b ∧ b ≤ 9))) : mj_R D_X9_view [.inr (some 0), .inl a, .inl b] (mj_w I) (mj_ex (some (.inl (-100000001))) I) := by
  have m0 := s_0
  have m4 := mj_S4.1
  have m5 := mj_B5.1
  refine mj_enter (by decide +kernel) (Nat.le_of_ble_eq_true rfl) ?_
  cases hv : isV w a
  · refine J_ald S_X9_view rfl rfl ?_
    refine J_getR S_X9_view rfl (o' := 4) (by assumption) (by omega) rfl ?_
    refine J_getR S_X9_view rfl (o' := 5) (by assumption) (by omega) rfl ?_
    refine J_ast S_X9_view rfl rfl ?_
    refine J_ald S_X9_view rfl rfl ?_
    refine J_ild S_X9_view rfl rfl ?_
    refine J_CVx S_X9_view rfl rfl (by assumption) (by omega) (by simp) (Z_find_n hR hI hv) rfl ?_
    refine J_ast S_X9_view rfl rfl ?_
    refine J_ald S_X9_view rfl rfl ?_
    refine J_nuN S_X9_view rfl ?_
    refine J_C S_X9_view rfl ?_
    refine J_retI S_X9_view rfl ?_
    exact ⟨rfl, rfl⟩
  · obtain ⟨k, rfl, hk, he, -⟩ := isV_y hI hv
    refine J_ald S_X9_view rfl rfl ?_
    refine J_getR S_X9_view rfl (o' := 4) (by assumption) (by omega) rfl ?_
    refine J_getR S_X9_view rfl (o' := 5) (by assumption) (by omega) rfl ?_
    refine J_ast S_X9_view rfl rfl ?_
    refine J_ald S_X9_view rfl rfl ?_
    refine J_ild S_X9_view rfl rfl ?_
    refine J_CVx S_X9_view rfl rfl (by assumption) (by omega) (by simp) (Z_find_y hR hI hk he) rfl ?_
    refine J_ast S_X9_view rfl rfl ?_
    refine J_ald S_X9_view rfl rfl ?_
    refine J_nuS S_X9_view rfl ?_
    refine J_ild S_X9_view rfl rfl ?_
    refine J_if S_X9_view rfl (fun c21 => ?_) (fun c21 => ?_)
    · refine J_C S_X9_view rfl ?_
      refine J_retI S_X9_view rfl ?_
      exact ⟨rfl, rfl⟩
    · refine J_ild S_X9_view rfl rfl ?_
      refine J_C S_X9_view rfl ?_
      refine J_cmp S_X9_view rfl (fun c27 => ?_) (fun c27 => ?_)
      · exact absurd ⟨hv, Int32.not_lt.mp c21, c27⟩ h
      · refine J_C S_X9_view rfl ?_
        refine J_retI S_X9_view rfl ?_
        exact ⟨rfl, rfl⟩
theorem X10_view_no (hI : IV (I 314)) {a b : Int32} (h : ¬ (isV (I 314) a = true ∧ (0 ≤ b ∧ b ≤ 9))) : mj_R D_X10_view [.inr (some 313), .inl a, .inl b] (mj_w I) (mj_ex (some (.inl (-100000001))) I) := by
  have m0 := s_313
  refine mj_enter (by decide +kernel) (Nat.le_of_ble_eq_true rfl) ?_
  cases hv : isV (I 314) a
  · refine J_ald S_X10_view rfl rfl ?_
    refine J_ild S_X10_view rfl rfl ?_
    refine J_CVx S_X10_view rfl rfl (by assumption) (by omega) (by simp) (Y_isV hI rfl hv) rfl ?_
    refine J_if S_X10_view rfl (fun c5 => False.elim (c5 rfl)) (fun c5 => ?_)
    refine J_C S_X10_view rfl ?_
    refine J_retI S_X10_view rfl ?_
    exact ⟨rfl, rfl⟩
  · have hne : ∀ j, j < 10 → b ≠ nI j := fun j hj e => h ⟨hv, by rw [e]; exact nI_pos' (by omega), by rw [e]; exact nI_le (b := 9) (by omega) (by decide)⟩
    refine J_ald S_X10_view rfl rfl ?_
    refine J_ild S_X10_view rfl rfl ?_
    refine J_CVx S_X10_view rfl rfl (by assumption) (by omega) (by simp) (Y_isV hI rfl hv) rfl ?_
    refine J_if S_X10_view rfl (fun c5 => ?_) (fun c5 => False.elim (absurd c5 (by decide)))
    refine J_ild S_X10_view rfl rfl ?_
    refine J_sw S_X10_view rfl ⟨fun c => absurd c (hne 0 (by decide)), fun _ => ⟨fun c => absurd c (hne 1 (by decide)), fun _ => ⟨fun c => absurd c (hne 2 (by decide)), fun _ => ⟨fun c => absurd c (hne 3 (by decide)), fun _ => ⟨fun c => absurd c (hne 4 (by decide)), fun _ => ⟨fun c => absurd c (hne 5 (by decide)), fun _ => ⟨fun c => absurd c (hne 6 (by decide)), fun _ => ⟨fun c => absurd c (hne 7 (by decide)), fun _ => ⟨fun c => absurd c (hne 8 (by decide)), fun _ => ⟨fun c => absurd c (hne 9 (by decide)), fun _ => ?_⟩⟩⟩⟩⟩⟩⟩⟩⟩⟩
    refine J_C S_X10_view rfl ?_
    refine J_retI S_X10_view rfl ?_
    exact ⟨rfl, rfl⟩
theorem X9_view_0 {w : mv} (hR : RB I 5 w) (hI : IV w) {k : Nat} (hk : k < 8) (he : vk w k 4 = 1) : mj_R D_X9_view [.inr (some 0), .inl (nI k), .inl (nI 0)] (mj_w I) (mj_ex (some (.inl (vwV w k 0))) I) := by
  have m0 := s_0
  have m4 := mj_S4.1
  have m5 := mj_B5.1
  have mv := vw_sh hk
  have hv := (hR.2.2.2.2 k hk).2.2 he
  have hw := hI.wv hk he
  refine mj_enter (by decide +kernel) (Nat.le_of_ble_eq_true rfl) ?_
  refine J_ald S_X9_view rfl rfl ?_
  refine J_getR S_X9_view rfl (o' := 4) (by assumption) (by omega) rfl ?_
  refine J_getR S_X9_view rfl (o' := 5) (by assumption) (by omega) rfl ?_
  refine J_ast S_X9_view rfl rfl ?_
  refine J_ald S_X9_view rfl rfl ?_
  refine J_ild S_X9_view rfl rfl ?_
  refine J_CVx S_X9_view rfl rfl (by assumption) (by omega) (by simp) (Z_find_y hR hI hk he) rfl ?_
  refine J_ast S_X9_view rfl rfl ?_
  refine J_ald S_X9_view rfl rfl ?_
  refine J_nuS S_X9_view rfl ?_
  refine J_ild S_X9_view rfl rfl ?_
  refine J_if S_X9_view rfl (fun c21 => False.elim (absurd c21 (by decide))) (fun c21 => ?_)
  refine J_ild S_X9_view rfl rfl ?_
  refine J_C S_X9_view rfl ?_
  refine J_cmp S_X9_view rfl (fun c27 => ?_) (fun c27 => False.elim (c27 (by decide)))
  refine J_ild S_X9_view rfl rfl ?_
  refine J_sw S_X9_view rfl ⟨fun _ => ?_, fun c => False.elim (by revert c; decide)⟩
  refine J_ald S_X9_view rfl rfl ?_
  refine J_getI S_X9_view rfl (by assumption) (by omega) ?_
  refine J_retI S_X9_view rfl ?_
  rw [hv.1]; exact ⟨rfl, rfl⟩
theorem X10_view_0 (hI : IV (I 314)) {k : Nat} (hk : k < 8) (he : vk (I 314) k 4 = 1) : mj_R D_X10_view [.inr (some 313), .inl (nI k), .inl (nI 0)] (mj_w I) (mj_ex (some (.inl (vwV (I 314) k 0))) I) := by
  have m0 := s_313
  have m1 := s_314
  have hv : isV (I 314) (nI k) = true := by rw [isV_nI hk]; exact ex_t he
  have hw := hI.wv hk he
  refine mj_enter (by decide +kernel) (Nat.le_of_ble_eq_true rfl) ?_
  refine J_ald S_X10_view rfl rfl ?_
  refine J_ild S_X10_view rfl rfl ?_
  refine J_CVx S_X10_view rfl rfl (by assumption) (by omega) (by simp) (Y_isV hI rfl hv) rfl ?_
  refine J_if S_X10_view rfl (fun c5 => ?_) (fun c5 => False.elim (absurd c5 (by decide)))
  refine J_ild S_X10_view rfl rfl ?_
  refine J_sw S_X10_view rfl ⟨fun _ => ?_, fun c => False.elim (by revert c; decide)⟩
  refine J_ald S_X10_view rfl rfl ?_
  refine J_getR S_X10_view rfl (o' := 314) (by assumption) (by omega) rfl ?_
  refine J_ild S_X10_view rfl rfl ?_
  refine J_C S_X10_view rfl ?_
  refine J_CSx S_X10_view rfl rfl (by simp) (C_X10_v (k := k) (f := 0)) rfl ?_
  refine J_iald S_X10_view rfl (by assumption) (by omega) (j := 615 + 9 * k + 0) rfl (by omega) (by decide) ?_
  refine J_retI S_X10_view rfl ?_
  exact ⟨rfl, rfl⟩
theorem X9_view_1 {w : mv} (hR : RB I 5 w) (hI : IV w) {k : Nat} (hk : k < 8) (he : vk w k 4 = 1) : mj_R D_X9_view [.inr (some 0), .inl (nI k), .inl (nI 1)] (mj_w I) (mj_ex (some (.inl (vwV w k 1))) I) := by
  have m0 := s_0
  have m4 := mj_S4.1
  have m5 := mj_B5.1
  have mv := vw_sh hk
  have hv := (hR.2.2.2.2 k hk).2.2 he
  have hw := hI.wv hk he
  have ht := C_X8_hasTable (I := I) mv (by omega)
  have hk0 := k_012 hw.2.1
  refine mj_enter (by decide +kernel) (Nat.le_of_ble_eq_true rfl) ?_
  show mj_J _ (mj_ex (some (.inl (if 3 ≤ vk w k 0 then -100000009 else vk w k 1))) I) _ _ _ _ _
  rw [hv.1] at ht
  by_cases c : 3 ≤ vk w k 0
  · rw [if_neg (fun g => hk0.mp g c)] at ht
    rw [if_pos c]
    refine J_ald S_X9_view rfl rfl ?_
    refine J_getR S_X9_view rfl (o' := 4) (by assumption) (by omega) rfl ?_
    refine J_getR S_X9_view rfl (o' := 5) (by assumption) (by omega) rfl ?_
    refine J_ast S_X9_view rfl rfl ?_
    refine J_ald S_X9_view rfl rfl ?_
    refine J_ild S_X9_view rfl rfl ?_
    refine J_CVx S_X9_view rfl rfl (by assumption) (by omega) (by simp) (Z_find_y hR hI hk he) rfl ?_
    refine J_ast S_X9_view rfl rfl ?_
    refine J_ald S_X9_view rfl rfl ?_
    refine J_nuS S_X9_view rfl ?_
    refine J_ild S_X9_view rfl rfl ?_
    refine J_if S_X9_view rfl (fun c21 => False.elim (absurd c21 (by decide))) (fun c21 => ?_)
    refine J_ild S_X9_view rfl rfl ?_
    refine J_C S_X9_view rfl ?_
    refine J_cmp S_X9_view rfl (fun c27 => ?_) (fun c27 => False.elim (c27 (by decide)))
    refine J_ild S_X9_view rfl rfl ?_
    refine J_sw S_X9_view rfl ⟨fun c => False.elim (by revert c; decide), fun _ => ⟨fun _ => ?_, fun c => False.elim (by revert c; decide)⟩⟩
    refine J_ald S_X9_view rfl rfl ?_
    refine J_CVx S_X9_view rfl rfl (by assumption) (by omega) (by simp) (ht) rfl ?_
    refine J_if S_X9_view rfl (fun c95 => ?_) (fun c95 => False.elim (c95 rfl))
    refine J_C S_X9_view rfl ?_
    refine J_retI S_X9_view rfl ?_
    exact ⟨rfl, rfl⟩
  · rw [if_pos (hk0.mpr c)] at ht
    rw [if_neg c]
    refine J_ald S_X9_view rfl rfl ?_
    refine J_getR S_X9_view rfl (o' := 4) (by assumption) (by omega) rfl ?_
    refine J_getR S_X9_view rfl (o' := 5) (by assumption) (by omega) rfl ?_
    refine J_ast S_X9_view rfl rfl ?_
    refine J_ald S_X9_view rfl rfl ?_
    refine J_ild S_X9_view rfl rfl ?_
    refine J_CVx S_X9_view rfl rfl (by assumption) (by omega) (by simp) (Z_find_y hR hI hk he) rfl ?_
    refine J_ast S_X9_view rfl rfl ?_
    refine J_ald S_X9_view rfl rfl ?_
    refine J_nuS S_X9_view rfl ?_
    refine J_ild S_X9_view rfl rfl ?_
    refine J_if S_X9_view rfl (fun c21 => False.elim (absurd c21 (by decide))) (fun c21 => ?_)
    refine J_ild S_X9_view rfl rfl ?_
    refine J_C S_X9_view rfl ?_
    refine J_cmp S_X9_view rfl (fun c27 => ?_) (fun c27 => False.elim (c27 (by decide)))
    refine J_ild S_X9_view rfl rfl ?_
    refine J_sw S_X9_view rfl ⟨fun c => False.elim (by revert c; decide), fun _ => ⟨fun _ => ?_, fun c => False.elim (by revert c; decide)⟩⟩
    refine J_ald S_X9_view rfl rfl ?_
    refine J_CVx S_X9_view rfl rfl (by assumption) (by omega) (by simp) (ht) rfl ?_
    refine J_if S_X9_view rfl (fun c95 => False.elim (absurd c95 (by decide))) (fun c95 => ?_)
    refine J_ald S_X9_view rfl rfl ?_
    refine J_getI S_X9_view rfl (by assumption) (by omega) ?_
    refine J_goto S_X9_view rfl ?_
    refine J_retI S_X9_view rfl ?_
    rw [hv.2.1]; exact ⟨rfl, rfl⟩
theorem X10_view_1 (hI : IV (I 314)) {k : Nat} (hk : k < 8) (he : vk (I 314) k 4 = 1) : mj_R D_X10_view [.inr (some 313), .inl (nI k), .inl (nI 1)] (mj_w I) (mj_ex (some (.inl (vwV (I 314) k 1))) I) := by
  have m0 := s_313
  have m1 := s_314
  have hv : isV (I 314) (nI k) = true := by rw [isV_nI hk]; exact ex_t he
  have hw := hI.wv hk he
  refine mj_enter (by decide +kernel) (Nat.le_of_ble_eq_true rfl) ?_
  show mj_J _ (mj_ex (some (.inl (if 3 ≤ vk (I 314) k 0 then -100000009 else vk (I 314) k 1))) I) _ _ _ _ _
  by_cases c : 3 ≤ vk (I 314) k 0
  · rw [if_pos c]
    refine J_ald S_X10_view rfl rfl ?_
    refine J_ild S_X10_view rfl rfl ?_
    refine J_CVx S_X10_view rfl rfl (by assumption) (by omega) (by simp) (Y_isV hI rfl hv) rfl ?_
    refine J_if S_X10_view rfl (fun c5 => ?_) (fun c5 => False.elim (absurd c5 (by decide)))
    refine J_ild S_X10_view rfl rfl ?_
    refine J_sw S_X10_view rfl ⟨fun c => False.elim (by revert c; decide), fun _ => ⟨fun _ => ?_, fun c => False.elim (by revert c; decide)⟩⟩
    refine J_ald S_X10_view rfl rfl ?_
    refine J_getR S_X10_view rfl (o' := 314) (by assumption) (by omega) rfl ?_
    refine J_ild S_X10_view rfl rfl ?_
    refine J_C S_X10_view rfl ?_
    refine J_CSx S_X10_view rfl rfl (by simp) (C_X10_v (k := k) (f := 0)) rfl ?_
    refine J_iald S_X10_view rfl (by assumption) (by omega) (j := 615 + 9 * k + 0) rfl (by omega) (by decide) ?_
    refine J_C S_X10_view rfl ?_
    refine J_cmp S_X10_view rfl (fun c90 => False.elim (Int32.not_lt.mpr c c90)) (fun c90 => ?_)
    refine J_C S_X10_view rfl ?_
    refine J_goto S_X10_view rfl ?_
    refine J_retI S_X10_view rfl ?_
    exact ⟨rfl, rfl⟩
  · rw [if_neg c]
    refine J_ald S_X10_view rfl rfl ?_
    refine J_ild S_X10_view rfl rfl ?_
    refine J_CVx S_X10_view rfl rfl (by assumption) (by omega) (by simp) (Y_isV hI rfl hv) rfl ?_
    refine J_if S_X10_view rfl (fun c5 => ?_) (fun c5 => False.elim (absurd c5 (by decide)))
    refine J_ild S_X10_view rfl rfl ?_
    refine J_sw S_X10_view rfl ⟨fun c => False.elim (by revert c; decide), fun _ => ⟨fun _ => ?_, fun c => False.elim (by revert c; decide)⟩⟩
    refine J_ald S_X10_view rfl rfl ?_
    refine J_getR S_X10_view rfl (o' := 314) (by assumption) (by omega) rfl ?_
    refine J_ild S_X10_view rfl rfl ?_
    refine J_C S_X10_view rfl ?_
    refine J_CSx S_X10_view rfl rfl (by simp) (C_X10_v (k := k) (f := 0)) rfl ?_
    refine J_iald S_X10_view rfl (by assumption) (by omega) (j := 615 + 9 * k + 0) rfl (by omega) (by decide) ?_
    refine J_C S_X10_view rfl ?_
    refine J_cmp S_X10_view rfl (fun c90 => ?_) (fun c90 => False.elim (c90 (Int32.not_le.mp c)))
    refine J_ald S_X10_view rfl rfl ?_
    refine J_getR S_X10_view rfl (o' := 314) (by assumption) (by omega) rfl ?_
    refine J_ild S_X10_view rfl rfl ?_
    refine J_C S_X10_view rfl ?_
    refine J_CSx S_X10_view rfl rfl (by simp) (C_X10_v (k := k) (f := 1)) rfl ?_
    refine J_iald S_X10_view rfl (by assumption) (by omega) (j := 615 + 9 * k + 1) rfl (by omega) (by decide) ?_
    refine J_retI S_X10_view rfl ?_
    exact ⟨rfl, rfl⟩
theorem X9_view_2 {w : mv} (hR : RB I 5 w) (hI : IV w) {k : Nat} (hk : k < 8) (he : vk w k 4 = 1) : mj_R D_X9_view [.inr (some 0), .inl (nI k), .inl (nI 2)] (mj_w I) (mj_ex (some (.inl (vwV w k 2))) I) := by
  have m0 := s_0
  have m4 := mj_S4.1
  have m5 := mj_B5.1
  have mv := vw_sh hk
  have hv := (hR.2.2.2.2 k hk).2.2 he
  have hw := hI.wv hk he
  refine mj_enter (by decide +kernel) (Nat.le_of_ble_eq_true rfl) ?_
  refine J_ald S_X9_view rfl rfl ?_
  refine J_getR S_X9_view rfl (o' := 4) (by assumption) (by omega) rfl ?_
  refine J_getR S_X9_view rfl (o' := 5) (by assumption) (by omega) rfl ?_
  refine J_ast S_X9_view rfl rfl ?_
  refine J_ald S_X9_view rfl rfl ?_
  refine J_ild S_X9_view rfl rfl ?_
  refine J_CVx S_X9_view rfl rfl (by assumption) (by omega) (by simp) (Z_find_y hR hI hk he) rfl ?_
  refine J_ast S_X9_view rfl rfl ?_
  refine J_ald S_X9_view rfl rfl ?_
  refine J_nuS S_X9_view rfl ?_
  refine J_ild S_X9_view rfl rfl ?_
  refine J_if S_X9_view rfl (fun c21 => False.elim (absurd c21 (by decide))) (fun c21 => ?_)
  refine J_ild S_X9_view rfl rfl ?_
  refine J_C S_X9_view rfl ?_
  refine J_cmp S_X9_view rfl (fun c27 => ?_) (fun c27 => False.elim (c27 (by decide)))
  refine J_ild S_X9_view rfl rfl ?_
  refine J_sw S_X9_view rfl ⟨fun c => False.elim (by revert c; decide), fun _ => ⟨fun c => False.elim (by revert c; decide), fun _ => ⟨fun _ => ?_, fun c => False.elim (by revert c; decide)⟩⟩⟩
  refine J_ald S_X9_view rfl rfl ?_
  refine J_getI S_X9_view rfl (by assumption) (by omega) ?_
  refine J_retI S_X9_view rfl ?_
  rw [hv.2.2.1]; exact ⟨rfl, rfl⟩
theorem X10_view_2 (hI : IV (I 314)) {k : Nat} (hk : k < 8) (he : vk (I 314) k 4 = 1) : mj_R D_X10_view [.inr (some 313), .inl (nI k), .inl (nI 2)] (mj_w I) (mj_ex (some (.inl (vwV (I 314) k 2))) I) := by
  have m0 := s_313
  have m1 := s_314
  have hv : isV (I 314) (nI k) = true := by rw [isV_nI hk]; exact ex_t he
  have hw := hI.wv hk he
  refine mj_enter (by decide +kernel) (Nat.le_of_ble_eq_true rfl) ?_
  refine J_ald S_X10_view rfl rfl ?_
  refine J_ild S_X10_view rfl rfl ?_
  refine J_CVx S_X10_view rfl rfl (by assumption) (by omega) (by simp) (Y_isV hI rfl hv) rfl ?_
  refine J_if S_X10_view rfl (fun c5 => ?_) (fun c5 => False.elim (absurd c5 (by decide)))
  refine J_ild S_X10_view rfl rfl ?_
  refine J_sw S_X10_view rfl ⟨fun c => False.elim (by revert c; decide), fun _ => ⟨fun c => False.elim (by revert c; decide), fun _ => ⟨fun _ => ?_, fun c => False.elim (by revert c; decide)⟩⟩⟩
  refine J_ald S_X10_view rfl rfl ?_
  refine J_getR S_X10_view rfl (o' := 314) (by assumption) (by omega) rfl ?_
  refine J_ild S_X10_view rfl rfl ?_
  refine J_C S_X10_view rfl ?_
  refine J_CSx S_X10_view rfl rfl (by simp) (C_X10_v (k := k) (f := 2)) rfl ?_
  refine J_iald S_X10_view rfl (by assumption) (by omega) (j := 615 + 9 * k + 2) rfl (by omega) (by decide) ?_
  refine J_retI S_X10_view rfl ?_
  exact ⟨rfl, rfl⟩
theorem X9_view_3 {w : mv} (hR : RB I 5 w) (hI : IV w) {k : Nat} (hk : k < 8) (he : vk w k 4 = 1) : mj_R D_X9_view [.inr (some 0), .inl (nI k), .inl (nI 3)] (mj_w I) (mj_ex (some (.inl (vwV w k 3))) I) := by
  have m0 := s_0
  have m4 := mj_S4.1
  have m5 := mj_B5.1
  have mv := vw_sh hk
  have hv := (hR.2.2.2.2 k hk).2.2 he
  have hw := hI.wv hk he
  refine mj_enter (by decide +kernel) (Nat.le_of_ble_eq_true rfl) ?_
  refine J_ald S_X9_view rfl rfl ?_
  refine J_getR S_X9_view rfl (o' := 4) (by assumption) (by omega) rfl ?_
  refine J_getR S_X9_view rfl (o' := 5) (by assumption) (by omega) rfl ?_
  refine J_ast S_X9_view rfl rfl ?_
  refine J_ald S_X9_view rfl rfl ?_
  refine J_ild S_X9_view rfl rfl ?_
  refine J_CVx S_X9_view rfl rfl (by assumption) (by omega) (by simp) (Z_find_y hR hI hk he) rfl ?_
  refine J_ast S_X9_view rfl rfl ?_
  refine J_ald S_X9_view rfl rfl ?_
  refine J_nuS S_X9_view rfl ?_
  refine J_ild S_X9_view rfl rfl ?_
  refine J_if S_X9_view rfl (fun c21 => False.elim (absurd c21 (by decide))) (fun c21 => ?_)
  refine J_ild S_X9_view rfl rfl ?_
  refine J_C S_X9_view rfl ?_
  refine J_cmp S_X9_view rfl (fun c27 => ?_) (fun c27 => False.elim (c27 (by decide)))
  refine J_ild S_X9_view rfl rfl ?_
  refine J_sw S_X9_view rfl ⟨fun c => False.elim (by revert c; decide), fun _ => ⟨fun c => False.elim (by revert c; decide), fun _ => ⟨fun c => False.elim (by revert c; decide), fun _ => ⟨fun _ => ?_, fun c => False.elim (by revert c; decide)⟩⟩⟩⟩
  refine J_ald S_X9_view rfl rfl ?_
  refine J_getI S_X9_view rfl (by assumption) (by omega) ?_
  refine J_retI S_X9_view rfl ?_
  rw [hv.2.2.2.1]; exact ⟨rfl, rfl⟩
theorem X10_view_3 (hI : IV (I 314)) {k : Nat} (hk : k < 8) (he : vk (I 314) k 4 = 1) : mj_R D_X10_view [.inr (some 313), .inl (nI k), .inl (nI 3)] (mj_w I) (mj_ex (some (.inl (vwV (I 314) k 3))) I) := by
  have m0 := s_313
  have m1 := s_314
  have hv : isV (I 314) (nI k) = true := by rw [isV_nI hk]; exact ex_t he
  have hw := hI.wv hk he
  refine mj_enter (by decide +kernel) (Nat.le_of_ble_eq_true rfl) ?_
  refine J_ald S_X10_view rfl rfl ?_
  refine J_ild S_X10_view rfl rfl ?_
  refine J_CVx S_X10_view rfl rfl (by assumption) (by omega) (by simp) (Y_isV hI rfl hv) rfl ?_
  refine J_if S_X10_view rfl (fun c5 => ?_) (fun c5 => False.elim (absurd c5 (by decide)))
  refine J_ild S_X10_view rfl rfl ?_
  refine J_sw S_X10_view rfl ⟨fun c => False.elim (by revert c; decide), fun _ => ⟨fun c => False.elim (by revert c; decide), fun _ => ⟨fun c => False.elim (by revert c; decide), fun _ => ⟨fun _ => ?_, fun c => False.elim (by revert c; decide)⟩⟩⟩⟩
  refine J_ald S_X10_view rfl rfl ?_
  refine J_getR S_X10_view rfl (o' := 314) (by assumption) (by omega) rfl ?_
  refine J_ild S_X10_view rfl rfl ?_
  refine J_C S_X10_view rfl ?_
  refine J_CSx S_X10_view rfl rfl (by simp) (C_X10_v (k := k) (f := 3)) rfl ?_
  refine J_iald S_X10_view rfl (by assumption) (by omega) (j := 615 + 9 * k + 3) rfl (by omega) (by decide) ?_
  refine J_retI S_X10_view rfl ?_
  exact ⟨rfl, rfl⟩
theorem X9_view_4 {w : mv} (hR : RB I 5 w) (hI : IV w) {k : Nat} (hk : k < 8) (he : vk w k 4 = 1) : mj_R D_X9_view [.inr (some 0), .inl (nI k), .inl (nI 4)] (mj_w I) (mj_ex (some (.inl (vwV w k 4))) I) := by
  have m0 := s_0
  have m4 := mj_S4.1
  have m5 := mj_B5.1
  have mv := vw_sh hk
  have hv := (hR.2.2.2.2 k hk).2.2 he
  have hw := hI.wv hk he
  have e7 := hv.2.2.2.2.2.2.1
  refine mj_enter (by decide +kernel) (Nat.le_of_ble_eq_true rfl) ?_
  show mj_J _ (mj_ex (some (.inl (vk w k 5))) I) _ _ _ _ _
  rcases rg_01 hw.2.2.2.2.2.2.2.2.2.1 with h5 | h5
  · rw [h5] at e7 ⊢
    refine J_ald S_X9_view rfl rfl ?_
    refine J_getR S_X9_view rfl (o' := 4) (by assumption) (by omega) rfl ?_
    refine J_getR S_X9_view rfl (o' := 5) (by assumption) (by omega) rfl ?_
    refine J_ast S_X9_view rfl rfl ?_
    refine J_ald S_X9_view rfl rfl ?_
    refine J_ild S_X9_view rfl rfl ?_
    refine J_CVx S_X9_view rfl rfl (by assumption) (by omega) (by simp) (Z_find_y hR hI hk he) rfl ?_
    refine J_ast S_X9_view rfl rfl ?_
    refine J_ald S_X9_view rfl rfl ?_
    refine J_nuS S_X9_view rfl ?_
    refine J_ild S_X9_view rfl rfl ?_
    refine J_if S_X9_view rfl (fun c21 => False.elim (absurd c21 (by decide))) (fun c21 => ?_)
    refine J_ild S_X9_view rfl rfl ?_
    refine J_C S_X9_view rfl ?_
    refine J_cmp S_X9_view rfl (fun c27 => ?_) (fun c27 => False.elim (c27 (by decide)))
    refine J_ild S_X9_view rfl rfl ?_
    refine J_sw S_X9_view rfl ⟨fun c => False.elim (by revert c; decide), fun _ => ⟨fun c => False.elim (by revert c; decide), fun _ => ⟨fun c => False.elim (by revert c; decide), fun _ => ⟨fun c => False.elim (by revert c; decide), fun _ => ⟨fun _ => ?_, fun c => False.elim (by revert c; decide)⟩⟩⟩⟩⟩
    refine J_ald S_X9_view rfl rfl ?_
    refine J_getI S_X9_view rfl (by assumption) (by omega) ?_
    rw [e7]
    refine J_if S_X9_view rfl (fun c126 => ?_) (fun c126 => False.elim (c126 rfl))
    refine J_C S_X9_view rfl ?_
    refine J_retI S_X9_view rfl ?_
    exact ⟨rfl, rfl⟩
  · rw [h5] at e7 ⊢
    refine J_ald S_X9_view rfl rfl ?_
    refine J_getR S_X9_view rfl (o' := 4) (by assumption) (by omega) rfl ?_
    refine J_getR S_X9_view rfl (o' := 5) (by assumption) (by omega) rfl ?_
    refine J_ast S_X9_view rfl rfl ?_
    refine J_ald S_X9_view rfl rfl ?_
    refine J_ild S_X9_view rfl rfl ?_
    refine J_CVx S_X9_view rfl rfl (by assumption) (by omega) (by simp) (Z_find_y hR hI hk he) rfl ?_
    refine J_ast S_X9_view rfl rfl ?_
    refine J_ald S_X9_view rfl rfl ?_
    refine J_nuS S_X9_view rfl ?_
    refine J_ild S_X9_view rfl rfl ?_
    refine J_if S_X9_view rfl (fun c21 => False.elim (absurd c21 (by decide))) (fun c21 => ?_)
    refine J_ild S_X9_view rfl rfl ?_
    refine J_C S_X9_view rfl ?_
    refine J_cmp S_X9_view rfl (fun c27 => ?_) (fun c27 => False.elim (c27 (by decide)))
    refine J_ild S_X9_view rfl rfl ?_
    refine J_sw S_X9_view rfl ⟨fun c => False.elim (by revert c; decide), fun _ => ⟨fun c => False.elim (by revert c; decide), fun _ => ⟨fun c => False.elim (by revert c; decide), fun _ => ⟨fun c => False.elim (by revert c; decide), fun _ => ⟨fun _ => ?_, fun c => False.elim (by revert c; decide)⟩⟩⟩⟩⟩
    refine J_ald S_X9_view rfl rfl ?_
    refine J_getI S_X9_view rfl (by assumption) (by omega) ?_
    rw [e7]
    refine J_if S_X9_view rfl (fun c126 => False.elim (absurd c126 (by decide))) (fun c126 => ?_)
    refine J_C S_X9_view rfl ?_
    refine J_goto S_X9_view rfl ?_
    refine J_retI S_X9_view rfl ?_
    exact ⟨rfl, rfl⟩
theorem X10_view_4 (hI : IV (I 314)) {k : Nat} (hk : k < 8) (he : vk (I 314) k 4 = 1) : mj_R D_X10_view [.inr (some 313), .inl (nI k), .inl (nI 4)] (mj_w I) (mj_ex (some (.inl (vwV (I 314) k 4))) I) := by
  have m0 := s_313
  have m1 := s_314
  have hv : isV (I 314) (nI k) = true := by rw [isV_nI hk]; exact ex_t he
  have hw := hI.wv hk he
  refine mj_enter (by decide +kernel) (Nat.le_of_ble_eq_true rfl) ?_
  refine J_ald S_X10_view rfl rfl ?_
  refine J_ild S_X10_view rfl rfl ?_
  refine J_CVx S_X10_view rfl rfl (by assumption) (by omega) (by simp) (Y_isV hI rfl hv) rfl ?_
  refine J_if S_X10_view rfl (fun c5 => ?_) (fun c5 => False.elim (absurd c5 (by decide)))
  refine J_ild S_X10_view rfl rfl ?_
  refine J_sw S_X10_view rfl ⟨fun c => False.elim (by revert c; decide), fun _ => ⟨fun c => False.elim (by revert c; decide), fun _ => ⟨fun c => False.elim (by revert c; decide), fun _ => ⟨fun c => False.elim (by revert c; decide), fun _ => ⟨fun _ => ?_, fun c => False.elim (by revert c; decide)⟩⟩⟩⟩⟩
  refine J_ald S_X10_view rfl rfl ?_
  refine J_getR S_X10_view rfl (o' := 314) (by assumption) (by omega) rfl ?_
  refine J_ild S_X10_view rfl rfl ?_
  refine J_C S_X10_view rfl ?_
  refine J_CSx S_X10_view rfl rfl (by simp) (C_X10_v (k := k) (f := 5)) rfl ?_
  refine J_iald S_X10_view rfl (by assumption) (by omega) (j := 615 + 9 * k + 5) rfl (by omega) (by decide) ?_
  refine J_retI S_X10_view rfl ?_
  exact ⟨rfl, rfl⟩
theorem X9_view_5 {w : mv} (hR : RB I 5 w) (hI : IV w) {k : Nat} (hk : k < 8) (he : vk w k 4 = 1) : mj_R D_X9_view [.inr (some 0), .inl (nI k), .inl (nI 5)] (mj_w I) (mj_ex (some (.inl (vwV w k 5))) I) := by
  have m0 := s_0
  have m4 := mj_S4.1
  have m5 := mj_B5.1
  have mv := vw_sh hk
  have hv := (hR.2.2.2.2 k hk).2.2 he
  have hw := hI.wv hk he
  have e7 := hv.2.2.2.2.2.2.1
  have e8 := hv.2.2.2.2.2.2.2.1
  refine mj_enter (by decide +kernel) (Nat.le_of_ble_eq_true rfl) ?_
  show mj_J _ (mj_ex (some (.inl (if vk w k 5 = 1 then -100000009 else vk w k 6))) I) _ _ _ _ _
  rcases rg_01 hw.2.2.2.2.2.2.2.2.2.1 with h5 | h5
  · rw [h5] at e7 ⊢
    rw [if_neg (by decide)]
    refine J_ald S_X9_view rfl rfl ?_
    refine J_getR S_X9_view rfl (o' := 4) (by assumption) (by omega) rfl ?_
    refine J_getR S_X9_view rfl (o' := 5) (by assumption) (by omega) rfl ?_
    refine J_ast S_X9_view rfl rfl ?_
    refine J_ald S_X9_view rfl rfl ?_
    refine J_ild S_X9_view rfl rfl ?_
    refine J_CVx S_X9_view rfl rfl (by assumption) (by omega) (by simp) (Z_find_y hR hI hk he) rfl ?_
    refine J_ast S_X9_view rfl rfl ?_
    refine J_ald S_X9_view rfl rfl ?_
    refine J_nuS S_X9_view rfl ?_
    refine J_ild S_X9_view rfl rfl ?_
    refine J_if S_X9_view rfl (fun c21 => False.elim (absurd c21 (by decide))) (fun c21 => ?_)
    refine J_ild S_X9_view rfl rfl ?_
    refine J_C S_X9_view rfl ?_
    refine J_cmp S_X9_view rfl (fun c27 => ?_) (fun c27 => False.elim (c27 (by decide)))
    refine J_ild S_X9_view rfl rfl ?_
    refine J_sw S_X9_view rfl ⟨fun c => False.elim (by revert c; decide), fun _ => ⟨fun c => False.elim (by revert c; decide), fun _ => ⟨fun c => False.elim (by revert c; decide), fun _ => ⟨fun c => False.elim (by revert c; decide), fun _ => ⟨fun c => False.elim (by revert c; decide), fun _ => ⟨fun _ => ?_, fun c => False.elim (by revert c; decide)⟩⟩⟩⟩⟩⟩
    refine J_ald S_X9_view rfl rfl ?_
    refine J_getI S_X9_view rfl (by assumption) (by omega) ?_
    rw [e7]
    refine J_if S_X9_view rfl (fun c140 => ?_) (fun c140 => False.elim (c140 rfl))
    refine J_ald S_X9_view rfl rfl ?_
    refine J_getI S_X9_view rfl (by assumption) (by omega) ?_
    refine J_retI S_X9_view rfl ?_
    rw [e8]; exact ⟨rfl, rfl⟩
  · rw [h5] at e7 ⊢
    rw [if_pos rfl]
    refine J_ald S_X9_view rfl rfl ?_
    refine J_getR S_X9_view rfl (o' := 4) (by assumption) (by omega) rfl ?_
    refine J_getR S_X9_view rfl (o' := 5) (by assumption) (by omega) rfl ?_
    refine J_ast S_X9_view rfl rfl ?_
    refine J_ald S_X9_view rfl rfl ?_
    refine J_ild S_X9_view rfl rfl ?_
    refine J_CVx S_X9_view rfl rfl (by assumption) (by omega) (by simp) (Z_find_y hR hI hk he) rfl ?_
    refine J_ast S_X9_view rfl rfl ?_
    refine J_ald S_X9_view rfl rfl ?_
    refine J_nuS S_X9_view rfl ?_
    refine J_ild S_X9_view rfl rfl ?_
    refine J_if S_X9_view rfl (fun c21 => False.elim (absurd c21 (by decide))) (fun c21 => ?_)
    refine J_ild S_X9_view rfl rfl ?_
    refine J_C S_X9_view rfl ?_
    refine J_cmp S_X9_view rfl (fun c27 => ?_) (fun c27 => False.elim (c27 (by decide)))
    refine J_ild S_X9_view rfl rfl ?_
    refine J_sw S_X9_view rfl ⟨fun c => False.elim (by revert c; decide), fun _ => ⟨fun c => False.elim (by revert c; decide), fun _ => ⟨fun c => False.elim (by revert c; decide), fun _ => ⟨fun c => False.elim (by revert c; decide), fun _ => ⟨fun c => False.elim (by revert c; decide), fun _ => ⟨fun _ => ?_, fun c => False.elim (by revert c; decide)⟩⟩⟩⟩⟩⟩
    refine J_ald S_X9_view rfl rfl ?_
    refine J_getI S_X9_view rfl (by assumption) (by omega) ?_
    rw [e7]
    refine J_if S_X9_view rfl (fun c140 => False.elim (absurd c140 (by decide))) (fun c140 => ?_)
    refine J_C S_X9_view rfl ?_
    refine J_goto S_X9_view rfl ?_
    refine J_retI S_X9_view rfl ?_
    exact ⟨rfl, rfl⟩
theorem X10_view_5 (hI : IV (I 314)) {k : Nat} (hk : k < 8) (he : vk (I 314) k 4 = 1) : mj_R D_X10_view [.inr (some 313), .inl (nI k), .inl (nI 5)] (mj_w I) (mj_ex (some (.inl (vwV (I 314) k 5))) I) := by
  have m0 := s_313
  have m1 := s_314
  have hv : isV (I 314) (nI k) = true := by rw [isV_nI hk]; exact ex_t he
  have hw := hI.wv hk he
  have hb := C_X10_isBankrupt (I := I) hk
  refine mj_enter (by decide +kernel) (Nat.le_of_ble_eq_true rfl) ?_
  show mj_J _ (mj_ex (some (.inl (if vk (I 314) k 5 = 1 then -100000009 else vk (I 314) k 6))) I) _ _ _ _ _
  by_cases c : vk (I 314) k 5 = 1
  · rw [decide_eq_true c] at hb
    rw [if_pos c]
    refine J_ald S_X10_view rfl rfl ?_
    refine J_ild S_X10_view rfl rfl ?_
    refine J_CVx S_X10_view rfl rfl (by assumption) (by omega) (by simp) (Y_isV hI rfl hv) rfl ?_
    refine J_if S_X10_view rfl (fun c5 => ?_) (fun c5 => False.elim (absurd c5 (by decide)))
    refine J_ild S_X10_view rfl rfl ?_
    refine J_sw S_X10_view rfl ⟨fun c => False.elim (by revert c; decide), fun _ => ⟨fun c => False.elim (by revert c; decide), fun _ => ⟨fun c => False.elim (by revert c; decide), fun _ => ⟨fun c => False.elim (by revert c; decide), fun _ => ⟨fun c => False.elim (by revert c; decide), fun _ => ⟨fun _ => ?_, fun c => False.elim (by revert c; decide)⟩⟩⟩⟩⟩⟩
    refine J_ald S_X10_view rfl rfl ?_
    refine J_ild S_X10_view rfl rfl ?_
    refine J_CVx S_X10_view rfl rfl (by assumption) (by omega) (by simp) (hb) rfl ?_
    refine J_if S_X10_view rfl (fun c147 => False.elim (absurd c147 (by decide))) (fun c147 => ?_)
    refine J_C S_X10_view rfl ?_
    refine J_goto S_X10_view rfl ?_
    refine J_retI S_X10_view rfl ?_
    exact ⟨rfl, rfl⟩
  · rw [decide_eq_false c] at hb
    rw [if_neg c]
    refine J_ald S_X10_view rfl rfl ?_
    refine J_ild S_X10_view rfl rfl ?_
    refine J_CVx S_X10_view rfl rfl (by assumption) (by omega) (by simp) (Y_isV hI rfl hv) rfl ?_
    refine J_if S_X10_view rfl (fun c5 => ?_) (fun c5 => False.elim (absurd c5 (by decide)))
    refine J_ild S_X10_view rfl rfl ?_
    refine J_sw S_X10_view rfl ⟨fun c => False.elim (by revert c; decide), fun _ => ⟨fun c => False.elim (by revert c; decide), fun _ => ⟨fun c => False.elim (by revert c; decide), fun _ => ⟨fun c => False.elim (by revert c; decide), fun _ => ⟨fun c => False.elim (by revert c; decide), fun _ => ⟨fun _ => ?_, fun c => False.elim (by revert c; decide)⟩⟩⟩⟩⟩⟩
    refine J_ald S_X10_view rfl rfl ?_
    refine J_ild S_X10_view rfl rfl ?_
    refine J_CVx S_X10_view rfl rfl (by assumption) (by omega) (by simp) (hb) rfl ?_
    refine J_if S_X10_view rfl (fun c147 => ?_) (fun c147 => False.elim (c147 rfl))
    refine J_ald S_X10_view rfl rfl ?_
    refine J_getR S_X10_view rfl (o' := 314) (by assumption) (by omega) rfl ?_
    refine J_ild S_X10_view rfl rfl ?_
    refine J_C S_X10_view rfl ?_
    refine J_CSx S_X10_view rfl rfl (by simp) (C_X10_v (k := k) (f := 6)) rfl ?_
    refine J_iald S_X10_view rfl (by assumption) (by omega) (j := 615 + 9 * k + 6) rfl (by omega) (by decide) ?_
    refine J_retI S_X10_view rfl ?_
    exact ⟨rfl, rfl⟩
theorem X9_view_6 {w : mv} (hR : RB I 5 w) (hI : IV w) {k : Nat} (hk : k < 8) (he : vk w k 4 = 1) : mj_R D_X9_view [.inr (some 0), .inl (nI k), .inl (nI 6)] (mj_w I) (mj_ex (some (.inl (vwV w k 6))) I) := by
  have m0 := s_0
  have m4 := mj_S4.1
  have m5 := mj_B5.1
  have mv := vw_sh hk
  have hv := (hR.2.2.2.2 k hk).2.2 he
  have hw := hI.wv hk he
  refine mj_enter (by decide +kernel) (Nat.le_of_ble_eq_true rfl) ?_
  refine J_ald S_X9_view rfl rfl ?_
  refine J_getR S_X9_view rfl (o' := 4) (by assumption) (by omega) rfl ?_
  refine J_getR S_X9_view rfl (o' := 5) (by assumption) (by omega) rfl ?_
  refine J_ast S_X9_view rfl rfl ?_
  refine J_ald S_X9_view rfl rfl ?_
  refine J_ild S_X9_view rfl rfl ?_
  refine J_CVx S_X9_view rfl rfl (by assumption) (by omega) (by simp) (Z_find_y hR hI hk he) rfl ?_
  refine J_ast S_X9_view rfl rfl ?_
  refine J_ald S_X9_view rfl rfl ?_
  refine J_nuS S_X9_view rfl ?_
  refine J_ild S_X9_view rfl rfl ?_
  refine J_if S_X9_view rfl (fun c21 => False.elim (absurd c21 (by decide))) (fun c21 => ?_)
  refine J_ild S_X9_view rfl rfl ?_
  refine J_C S_X9_view rfl ?_
  refine J_cmp S_X9_view rfl (fun c27 => ?_) (fun c27 => False.elim (c27 (by decide)))
  refine J_ild S_X9_view rfl rfl ?_
  refine J_sw S_X9_view rfl ⟨fun c => False.elim (by revert c; decide), fun _ => ⟨fun c => False.elim (by revert c; decide), fun _ => ⟨fun c => False.elim (by revert c; decide), fun _ => ⟨fun c => False.elim (by revert c; decide), fun _ => ⟨fun c => False.elim (by revert c; decide), fun _ => ⟨fun c => False.elim (by revert c; decide), fun _ => ⟨fun _ => ?_, fun c => False.elim (by revert c; decide)⟩⟩⟩⟩⟩⟩⟩
  refine J_ald S_X9_view rfl rfl ?_
  refine J_ald S_X9_view rfl rfl ?_
  refine J_CVx S_X9_view rfl rfl (by assumption) (by omega) (by simp) (C_X0_arrears mj_B5 hR hI hk he) rfl ?_
  refine J_retI S_X9_view rfl ?_
  exact ⟨rfl, rfl⟩
theorem X10_view_6 (hI : IV (I 314)) {k : Nat} (hk : k < 8) (he : vk (I 314) k 4 = 1) : mj_R D_X10_view [.inr (some 313), .inl (nI k), .inl (nI 6)] (mj_w I) (mj_ex (some (.inl (vwV (I 314) k 6))) I) := by
  have m0 := s_313
  have m1 := s_314
  have hv : isV (I 314) (nI k) = true := by rw [isV_nI hk]; exact ex_t he
  have hw := hI.wv hk he
  have har := C_X10_arrears (I := I) hI (k := k) (hI.ex hk he)
  rw [arrM_ex he] at har
  refine mj_enter (by decide +kernel) (Nat.le_of_ble_eq_true rfl) ?_
  refine J_ald S_X10_view rfl rfl ?_
  refine J_ild S_X10_view rfl rfl ?_
  refine J_CVx S_X10_view rfl rfl (by assumption) (by omega) (by simp) (Y_isV hI rfl hv) rfl ?_
  refine J_if S_X10_view rfl (fun c5 => ?_) (fun c5 => False.elim (absurd c5 (by decide)))
  refine J_ild S_X10_view rfl rfl ?_
  refine J_sw S_X10_view rfl ⟨fun c => False.elim (by revert c; decide), fun _ => ⟨fun c => False.elim (by revert c; decide), fun _ => ⟨fun c => False.elim (by revert c; decide), fun _ => ⟨fun c => False.elim (by revert c; decide), fun _ => ⟨fun c => False.elim (by revert c; decide), fun _ => ⟨fun c => False.elim (by revert c; decide), fun _ => ⟨fun _ => ?_, fun c => False.elim (by revert c; decide)⟩⟩⟩⟩⟩⟩⟩
  refine J_ald S_X10_view rfl rfl ?_
  refine J_ild S_X10_view rfl rfl ?_
  refine J_CVx S_X10_view rfl rfl (by assumption) (by omega) (by simp) (har) rfl ?_
  refine J_retI S_X10_view rfl ?_
  exact ⟨rfl, rfl⟩
theorem X9_view_7 {w : mv} (hR : RB I 5 w) (hI : IV w) {k : Nat} (hk : k < 8) (he : vk w k 4 = 1) : mj_R D_X9_view [.inr (some 0), .inl (nI k), .inl (nI 7)] (mj_w I) (mj_ex (some (.inl (vwV w k 7))) I) := by
  have m0 := s_0
  have m4 := mj_S4.1
  have m5 := mj_B5.1
  have mv := vw_sh hk
  have hv := (hR.2.2.2.2 k hk).2.2 he
  have hw := hI.wv hk he
  refine mj_enter (by decide +kernel) (Nat.le_of_ble_eq_true rfl) ?_
  refine J_ald S_X9_view rfl rfl ?_
  refine J_getR S_X9_view rfl (o' := 4) (by assumption) (by omega) rfl ?_
  refine J_getR S_X9_view rfl (o' := 5) (by assumption) (by omega) rfl ?_
  refine J_ast S_X9_view rfl rfl ?_
  refine J_ald S_X9_view rfl rfl ?_
  refine J_ild S_X9_view rfl rfl ?_
  refine J_CVx S_X9_view rfl rfl (by assumption) (by omega) (by simp) (Z_find_y hR hI hk he) rfl ?_
  refine J_ast S_X9_view rfl rfl ?_
  refine J_ald S_X9_view rfl rfl ?_
  refine J_nuS S_X9_view rfl ?_
  refine J_ild S_X9_view rfl rfl ?_
  refine J_if S_X9_view rfl (fun c21 => False.elim (absurd c21 (by decide))) (fun c21 => ?_)
  refine J_ild S_X9_view rfl rfl ?_
  refine J_C S_X9_view rfl ?_
  refine J_cmp S_X9_view rfl (fun c27 => ?_) (fun c27 => False.elim (c27 (by decide)))
  refine J_ild S_X9_view rfl rfl ?_
  refine J_sw S_X9_view rfl ⟨fun c => False.elim (by revert c; decide), fun _ => ⟨fun c => False.elim (by revert c; decide), fun _ => ⟨fun c => False.elim (by revert c; decide), fun _ => ⟨fun c => False.elim (by revert c; decide), fun _ => ⟨fun c => False.elim (by revert c; decide), fun _ => ⟨fun c => False.elim (by revert c; decide), fun _ => ⟨fun c => False.elim (by revert c; decide), fun _ => ⟨fun _ => ?_, fun c => False.elim (by revert c; decide)⟩⟩⟩⟩⟩⟩⟩⟩
  refine J_ald S_X9_view rfl rfl ?_
  refine J_getI S_X9_view rfl (by assumption) (by omega) ?_
  refine J_retI S_X9_view rfl ?_
  rw [hv.2.2.2.2.2.2.2.2.1]; exact ⟨rfl, rfl⟩
theorem X10_view_7 (hI : IV (I 314)) {k : Nat} (hk : k < 8) (he : vk (I 314) k 4 = 1) : mj_R D_X10_view [.inr (some 313), .inl (nI k), .inl (nI 7)] (mj_w I) (mj_ex (some (.inl (vwV (I 314) k 7))) I) := by
  have m0 := s_313
  have m1 := s_314
  have hv : isV (I 314) (nI k) = true := by rw [isV_nI hk]; exact ex_t he
  have hw := hI.wv hk he
  refine mj_enter (by decide +kernel) (Nat.le_of_ble_eq_true rfl) ?_
  refine J_ald S_X10_view rfl rfl ?_
  refine J_ild S_X10_view rfl rfl ?_
  refine J_CVx S_X10_view rfl rfl (by assumption) (by omega) (by simp) (Y_isV hI rfl hv) rfl ?_
  refine J_if S_X10_view rfl (fun c5 => ?_) (fun c5 => False.elim (absurd c5 (by decide)))
  refine J_ild S_X10_view rfl rfl ?_
  refine J_sw S_X10_view rfl ⟨fun c => False.elim (by revert c; decide), fun _ => ⟨fun c => False.elim (by revert c; decide), fun _ => ⟨fun c => False.elim (by revert c; decide), fun _ => ⟨fun c => False.elim (by revert c; decide), fun _ => ⟨fun c => False.elim (by revert c; decide), fun _ => ⟨fun c => False.elim (by revert c; decide), fun _ => ⟨fun c => False.elim (by revert c; decide), fun _ => ⟨fun _ => ?_, fun c => False.elim (by revert c; decide)⟩⟩⟩⟩⟩⟩⟩⟩
  refine J_ald S_X10_view rfl rfl ?_
  refine J_getR S_X10_view rfl (o' := 314) (by assumption) (by omega) rfl ?_
  refine J_ild S_X10_view rfl rfl ?_
  refine J_C S_X10_view rfl ?_
  refine J_CSx S_X10_view rfl rfl (by simp) (C_X10_v (k := k) (f := 7)) rfl ?_
  refine J_iald S_X10_view rfl (by assumption) (by omega) (j := 615 + 9 * k + 7) rfl (by omega) (by decide) ?_
  refine J_retI S_X10_view rfl ?_
  exact ⟨rfl, rfl⟩
theorem X9_view_8 {w : mv} (hR : RB I 5 w) (hI : IV w) {k : Nat} (hk : k < 8) (he : vk w k 4 = 1) : mj_R D_X9_view [.inr (some 0), .inl (nI k), .inl (nI 8)] (mj_w I) (mj_ex (some (.inl (vwV w k 8))) I) := by
  have m0 := s_0
  have m4 := mj_S4.1
  have m5 := mj_B5.1
  have mv := vw_sh hk
  have hv := (hR.2.2.2.2 k hk).2.2 he
  have hw := hI.wv hk he
  refine mj_enter (by decide +kernel) (Nat.le_of_ble_eq_true rfl) ?_
  refine J_ald S_X9_view rfl rfl ?_
  refine J_getR S_X9_view rfl (o' := 4) (by assumption) (by omega) rfl ?_
  refine J_getR S_X9_view rfl (o' := 5) (by assumption) (by omega) rfl ?_
  refine J_ast S_X9_view rfl rfl ?_
  refine J_ald S_X9_view rfl rfl ?_
  refine J_ild S_X9_view rfl rfl ?_
  refine J_CVx S_X9_view rfl rfl (by assumption) (by omega) (by simp) (Z_find_y hR hI hk he) rfl ?_
  refine J_ast S_X9_view rfl rfl ?_
  refine J_ald S_X9_view rfl rfl ?_
  refine J_nuS S_X9_view rfl ?_
  refine J_ild S_X9_view rfl rfl ?_
  refine J_if S_X9_view rfl (fun c21 => False.elim (absurd c21 (by decide))) (fun c21 => ?_)
  refine J_ild S_X9_view rfl rfl ?_
  refine J_C S_X9_view rfl ?_
  refine J_cmp S_X9_view rfl (fun c27 => ?_) (fun c27 => False.elim (c27 (by decide)))
  refine J_ild S_X9_view rfl rfl ?_
  refine J_sw S_X9_view rfl ⟨fun c => False.elim (by revert c; decide), fun _ => ⟨fun c => False.elim (by revert c; decide), fun _ => ⟨fun c => False.elim (by revert c; decide), fun _ => ⟨fun c => False.elim (by revert c; decide), fun _ => ⟨fun c => False.elim (by revert c; decide), fun _ => ⟨fun c => False.elim (by revert c; decide), fun _ => ⟨fun c => False.elim (by revert c; decide), fun _ => ⟨fun c => False.elim (by revert c; decide), fun _ => ⟨fun _ => ?_, fun c => False.elim (by revert c; decide)⟩⟩⟩⟩⟩⟩⟩⟩⟩
  refine J_ald S_X9_view rfl rfl ?_
  refine J_ald S_X9_view rfl rfl ?_
  refine J_CVx S_X9_view rfl rfl (by assumption) (by omega) (by simp) (C_X0_need mj_B5 hR hI hk he) rfl ?_
  refine J_retI S_X9_view rfl ?_
  exact ⟨rfl, rfl⟩
theorem X10_view_8 (hI : IV (I 314)) {k : Nat} (hk : k < 8) (he : vk (I 314) k 4 = 1) : mj_R D_X10_view [.inr (some 313), .inl (nI k), .inl (nI 8)] (mj_w I) (mj_ex (some (.inl (vwV (I 314) k 8))) I) := by
  have m0 := s_313
  have m1 := s_314
  have hv : isV (I 314) (nI k) = true := by rw [isV_nI hk]; exact ex_t he
  have hw := hI.wv hk he
  refine mj_enter (by decide +kernel) (Nat.le_of_ble_eq_true rfl) ?_
  refine J_ald S_X10_view rfl rfl ?_
  refine J_ild S_X10_view rfl rfl ?_
  refine J_CVx S_X10_view rfl rfl (by assumption) (by omega) (by simp) (Y_isV hI rfl hv) rfl ?_
  refine J_if S_X10_view rfl (fun c5 => ?_) (fun c5 => False.elim (absurd c5 (by decide)))
  refine J_ild S_X10_view rfl rfl ?_
  refine J_sw S_X10_view rfl ⟨fun c => False.elim (by revert c; decide), fun _ => ⟨fun c => False.elim (by revert c; decide), fun _ => ⟨fun c => False.elim (by revert c; decide), fun _ => ⟨fun c => False.elim (by revert c; decide), fun _ => ⟨fun c => False.elim (by revert c; decide), fun _ => ⟨fun c => False.elim (by revert c; decide), fun _ => ⟨fun c => False.elim (by revert c; decide), fun _ => ⟨fun c => False.elim (by revert c; decide), fun _ => ⟨fun _ => ?_, fun c => False.elim (by revert c; decide)⟩⟩⟩⟩⟩⟩⟩⟩⟩
  refine J_ald S_X10_view rfl rfl ?_
  refine J_ild S_X10_view rfl rfl ?_
  refine J_CVx S_X10_view rfl rfl (by assumption) (by omega) (by simp) (C_X10_need hI hk he) rfl ?_
  refine J_retI S_X10_view rfl ?_
  exact ⟨rfl, rfl⟩
theorem X9_view_9 {w : mv} (hR : RB I 5 w) (hI : IV w) {k : Nat} (hk : k < 8) (he : vk w k 4 = 1) : mj_R D_X9_view [.inr (some 0), .inl (nI k), .inl (nI 9)] (mj_w I) (mj_ex (some (.inl (vwV w k 9))) I) := by
  have m0 := s_0
  have m4 := mj_S4.1
  have m5 := mj_B5.1
  have mv := vw_sh hk
  have hv := (hR.2.2.2.2 k hk).2.2 he
  have hw := hI.wv hk he
  refine mj_enter (by decide +kernel) (Nat.le_of_ble_eq_true rfl) ?_
  refine J_ald S_X9_view rfl rfl ?_
  refine J_getR S_X9_view rfl (o' := 4) (by assumption) (by omega) rfl ?_
  refine J_getR S_X9_view rfl (o' := 5) (by assumption) (by omega) rfl ?_
  refine J_ast S_X9_view rfl rfl ?_
  refine J_ald S_X9_view rfl rfl ?_
  refine J_ild S_X9_view rfl rfl ?_
  refine J_CVx S_X9_view rfl rfl (by assumption) (by omega) (by simp) (Z_find_y hR hI hk he) rfl ?_
  refine J_ast S_X9_view rfl rfl ?_
  refine J_ald S_X9_view rfl rfl ?_
  refine J_nuS S_X9_view rfl ?_
  refine J_ild S_X9_view rfl rfl ?_
  refine J_if S_X9_view rfl (fun c21 => False.elim (absurd c21 (by decide))) (fun c21 => ?_)
  refine J_ild S_X9_view rfl rfl ?_
  refine J_C S_X9_view rfl ?_
  refine J_cmp S_X9_view rfl (fun c27 => ?_) (fun c27 => False.elim (c27 (by decide)))
  refine J_ild S_X9_view rfl rfl ?_
  refine J_sw S_X9_view rfl ⟨fun c => False.elim (by revert c; decide), fun _ => ⟨fun c => False.elim (by revert c; decide), fun _ => ⟨fun c => False.elim (by revert c; decide), fun _ => ⟨fun c => False.elim (by revert c; decide), fun _ => ⟨fun c => False.elim (by revert c; decide), fun _ => ⟨fun c => False.elim (by revert c; decide), fun _ => ⟨fun c => False.elim (by revert c; decide), fun _ => ⟨fun c => False.elim (by revert c; decide), fun _ => ⟨fun c => False.elim (by revert c; decide), fun _ => ?_⟩⟩⟩⟩⟩⟩⟩⟩⟩
  refine J_ald S_X9_view rfl rfl ?_
  refine J_getI S_X9_view rfl (by assumption) (by omega) ?_
  refine J_retI S_X9_view rfl ?_
  rw [hv.2.2.2.2.2.2.2.2.2]; exact ⟨rfl, rfl⟩
theorem X10_view_9 (hI : IV (I 314)) {k : Nat} (hk : k < 8) (he : vk (I 314) k 4 = 1) : mj_R D_X10_view [.inr (some 313), .inl (nI k), .inl (nI 9)] (mj_w I) (mj_ex (some (.inl (vwV (I 314) k 9))) I) := by
  have m0 := s_313
  have m1 := s_314
  have hv : isV (I 314) (nI k) = true := by rw [isV_nI hk]; exact ex_t he
  have hw := hI.wv hk he
  refine mj_enter (by decide +kernel) (Nat.le_of_ble_eq_true rfl) ?_
  refine J_ald S_X10_view rfl rfl ?_
  refine J_ild S_X10_view rfl rfl ?_
  refine J_CVx S_X10_view rfl rfl (by assumption) (by omega) (by simp) (Y_isV hI rfl hv) rfl ?_
  refine J_if S_X10_view rfl (fun c5 => ?_) (fun c5 => False.elim (absurd c5 (by decide)))
  refine J_ild S_X10_view rfl rfl ?_
  refine J_sw S_X10_view rfl ⟨fun c => False.elim (by revert c; decide), fun _ => ⟨fun c => False.elim (by revert c; decide), fun _ => ⟨fun c => False.elim (by revert c; decide), fun _ => ⟨fun c => False.elim (by revert c; decide), fun _ => ⟨fun c => False.elim (by revert c; decide), fun _ => ⟨fun c => False.elim (by revert c; decide), fun _ => ⟨fun c => False.elim (by revert c; decide), fun _ => ⟨fun c => False.elim (by revert c; decide), fun _ => ⟨fun c => False.elim (by revert c; decide), fun _ => ⟨fun _ => ?_, fun c => False.elim (by revert c; decide)⟩⟩⟩⟩⟩⟩⟩⟩⟩⟩
  refine J_ald S_X10_view rfl rfl ?_
  refine J_getR S_X10_view rfl (o' := 314) (by assumption) (by omega) rfl ?_
  refine J_ild S_X10_view rfl rfl ?_
  refine J_C S_X10_view rfl ?_
  refine J_CSx S_X10_view rfl rfl (by simp) (C_X10_v (k := k) (f := 8)) rfl ?_
  refine J_iald S_X10_view rfl (by assumption) (by omega) (j := 615 + 9 * k + 8) rfl (by omega) (by decide) ?_
  refine J_retI S_X10_view rfl ?_
  exact ⟨rfl, rfl⟩
theorem P_view (h : Rl I) (a b : Int32) : PRI D_X9_view D_X10_view [.inl a, .inl b] I := by
  have hRl := h
  obtain ⟨o, n, L, hc, h2, h4⟩ := h
  have m0 := s_0
  have m1 := s_1
  have m2 := s_2
  have m4 := mj_S4.1
  have m5 := mj_B5.1
  have m6 : mj_sh 6 = (2, 3) := mj_B5.2.1
  have m52 := s_52
  have m294 := s_294
  have hR : RB I 5 (I 314) := hc.1.1
  have hI : IV (I 314) := hc.1.2.1
  have hZ : ZB (I 314) := hc.1.2.2.1
  have hn : n ≤ 5 := hc.2.1.2.2.2.1
  have hle : tn (I 314 0) ≤ 200 := hI.1.2
  by_cases hno : isV (I 314) a = true ∧ (0 ≤ b ∧ b ≤ 9)
  · obtain ⟨q1, q2⟩ := hno
    obtain ⟨k, rfl, hk, he, -⟩ := isV_y hI q1
    obtain ⟨j, hj, rfl⟩ := i_rng (n := 9) (by decide) q2.1 q2.2
    have hM : ∀ I1, UP I I1 → ∀ j, (∀ J : mj_I, IV (J 314) → vk (J 314) k 4 = 1 → mj_R D_X10_view [.inr (some 313), .inl (nI k), .inl (nI j)] (mj_w J) (mj_ex (some (.inl (vwV (J 314) k j))) J)) → mj_R D_X10_view [.inr (some 313), .inl (nI k), .inl (nI j)] (mj_w I1) (mj_ex (some (.inl (vwV (I 314) k j))) I1) := by
      intro I1 hu j g
      have e := hu 314 (by decide)
      have g1 := g I1 (by rw [e]; exact hI) (by rw [e]; exact he)
      rw [e] at g1
      exact g1
    rcases (show j = 0 ∨ j = 1 ∨ j = 2 ∨ j = 3 ∨ j = 4 ∨ j = 5 ∨ j = 6 ∨ j = 7 ∨ j = 8 ∨ j = 9 by omega) with rfl | rfl | rfl | rfl | rfl | rfl | rfl | rfl | rfl | rfl
    · exact PR_no hRl (X9_view_0 hR hI hk he) (fun I1 hu => hM I1 hu 0 (fun J a b => X10_view_0 a hk b))
    · exact PR_no hRl (X9_view_1 hR hI hk he) (fun I1 hu => hM I1 hu 1 (fun J a b => X10_view_1 a hk b))
    · exact PR_no hRl (X9_view_2 hR hI hk he) (fun I1 hu => hM I1 hu 2 (fun J a b => X10_view_2 a hk b))
    · exact PR_no hRl (X9_view_3 hR hI hk he) (fun I1 hu => hM I1 hu 3 (fun J a b => X10_view_3 a hk b))
    · exact PR_no hRl (X9_view_4 hR hI hk he) (fun I1 hu => hM I1 hu 4 (fun J a b => X10_view_4 a hk b))
    · exact PR_no hRl (X9_view_5 hR hI hk he) (fun I1 hu => hM I1 hu 5 (fun J a b => X10_view_5 a hk b))
    · exact PR_no hRl (X9_view_6 hR hI hk he) (fun I1 hu => hM I1 hu 6 (fun J a b => X10_view_6 a hk b))
    · exact PR_no hRl (X9_view_7 hR hI hk he) (fun I1 hu => hM I1 hu 7 (fun J a b => X10_view_7 a hk b))
    · exact PR_no hRl (X9_view_8 hR hI hk he) (fun I1 hu => hM I1 hu 8 (fun J a b => X10_view_8 a hk b))
    · exact PR_no hRl (X9_view_9 hR hI hk he) (fun I1 hu => hM I1 hu 9 (fun J a b => X10_view_9 a hk b))
  · exact PR_no hRl (X9_view_no hR hI hno) (fun I1 hu => X10_view_no (by rw [hu 314 (by decide)]; exact hI) (by rw [hu 314 (by decide)]; exact hno))
end P8
