theorem tabv_ok {v : mv} (hI : IV v) (c : Nat) : ∀ n, n ≤ tn (v 0) → tabv v c n = -1 ∨ rg (tabv v c n) 99
  | 0, _ => Or.inl rfl
  | n + 1, h => by
    rw [tabv]
    split
    · exact (hI.2.2.2.2.1 n (by omega)).2.2
    · exact tabv_ok hI c n (by omega)
def ly (v : mv) (I : mj_I) (o : Nat) : Nat → mj_I
  | 0 => tb_e I o 24
  | n + 1 => mj_up (ly v I o n) o (cl v n) (v (17 + 3 * n))
theorem tb_e_ne {I : mj_I} {o q : Nat} (h : q ≠ o) : ∀ n, tb_e I o n q = I q
  | 0 => rfl
  | n + 1 => by rw [tb_e, mj_up_ne h, tb_e_ne h n]
theorem tb_e_at {I : mj_I} {o c : Nat} : ∀ n, c < n → tb_e I o n o c = -1
  | 0, h => absurd h (Nat.not_lt_zero c)
  | n + 1, h => by
    rw [tb_e, mj_up_eq]
    by_cases e : c = n
    · rw [e, up_s]
    · rw [up_n e, tb_e_at n (by omega)]
theorem ly_ne {v : mv} {I : mj_I} {o q : Nat} (h : q ≠ o) : ∀ n, ly v I o n q = I q
  | 0 => tb_e_ne h 24
  | n + 1 => by rw [ly, mj_up_ne h, ly_ne h n]
theorem ly_at {v : mv} {I : mj_I} {o c : Nat} (hc : c < 24) : ∀ n, ly v I o n o c = tabv v c n
  | 0 => tb_e_at 24 hc
  | n + 1 => by
    rw [ly, mj_up_eq, tabv]
    by_cases e : cl v n = c
    · rw [if_pos e, e, up_s]
    · rw [if_neg e, up_n (fun h => e h.symm), ly_at hc n]
section An
variable {I : mj_I}
theorem C_X10_lays (hI : IV (I 314)) {n : Nat} (hn : n ≤ tn (I 314 0)) : mj_R D_X10_lays [.inr (some 313), .inl (nI n)] (mj_w I) (mj_ex none (ly (I 314) I 317 n)) := by
  have m0 := s_313
  have m1 := s_314
  have m4 := s_317
  have hl := hI.1.2
  refine mj_enter (by decide +kernel) (Nat.le_of_ble_eq_true rfl) ?_
  have key2 : ∀ (r i : Nat), i + r = n → mj_J D_X10_lays (mj_ex none (ly (I 314) I 317 n)) 23 [some (.inr (some 313)), some (.inl (nI n)), some (.inl (nI i))] [] (mj_w (ly (I 314) I 317 i)) (0, 0) := by
    intro r
    induction r with
    | zero =>
      intro i hi
      obtain rfl : i = n := by omega
      refine J_ild S_X10_lays rfl rfl ?_
      refine J_ild S_X10_lays rfl rfl ?_
      refine J_cmp S_X10_lays rfl (fun c25 => ?_) (fun c25 => False.elim (c25 (nI_le (Nat.le_refl _) (by omega))))
      refine J_retV S_X10_lays rfl ?_
      exact ⟨rfl, rfl⟩
    | succ r ih =>
      intro i hi
      have hj : i < tn (I 314 0) := by omega
      have e314 : ly (I 314) I 317 i 314 = I 314 := ly_ne (by decide) i
      obtain ⟨t1, t2, t3⟩ := hI.2.2.2.2.1 i hj
      have hcl := hI.cl_lt hj
      have hc0 := C_X10_c (I := ly (I 314) I 317 i) (k := i) (f := 0)
      have hc1 := C_X10_c (I := ly (I 314) I 317 i) (k := i) (f := 1)
      have hc2 := C_X10_c (I := ly (I 314) I 317 i) (k := i) (f := 2)
      have e := cl_eq t1 t2
      have ee : (12 : Int32) * ly (I 314) I 317 i 314 (15 + 3 * i + 0) + ly (I 314) I 317 i 314 (15 + 3 * i + 1) = nI (cl (I 314) i) := by
        rw [e314, show 15 + 3 * i + 1 = 16 + 3 * i by omega, Int32.mul_comm]
        exact e
      have e2 : ly (I 314) I 317 i 314 (15 + 3 * i + 2) = I 314 (17 + 3 * i) := by rw [e314, show 15 + 3 * i + 2 = 17 + 3 * i by omega]
      refine J_ild S_X10_lays rfl rfl ?_
      refine J_ild S_X10_lays rfl rfl ?_
      refine J_cmp S_X10_lays rfl (fun c25 => False.elim (nI_ge (by omega) (by omega) c25)) (fun c25 => ?_)
      refine J_ald S_X10_lays rfl rfl ?_
      refine J_getR S_X10_lays rfl (o' := 317) (by assumption) (by omega) rfl ?_
      refine J_C S_X10_lays rfl ?_
      refine J_ald S_X10_lays rfl rfl ?_
      refine J_getR S_X10_lays rfl (o' := 314) (by assumption) (by omega) rfl ?_
      refine J_ild S_X10_lays rfl rfl ?_
      refine J_C S_X10_lays rfl ?_
      refine J_CSx S_X10_lays rfl rfl (by simp) (hc0) rfl ?_
      refine J_iald S_X10_lays rfl (by assumption) (by omega) rfl (by omega) (by decide) ?_
      refine J_bin S_X10_lays rfl ?_
      refine J_ald S_X10_lays rfl rfl ?_
      refine J_getR S_X10_lays rfl (o' := 314) (by assumption) (by omega) rfl ?_
      refine J_ild S_X10_lays rfl rfl ?_
      refine J_C S_X10_lays rfl ?_
      refine J_CSx S_X10_lays rfl rfl (by simp) (hc1) rfl ?_
      refine J_iald S_X10_lays rfl (by assumption) (by omega) rfl (by omega) (by decide) ?_
      refine J_bin S_X10_lays rfl ?_
      rw [ee]
      refine J_ald S_X10_lays rfl rfl ?_
      refine J_getR S_X10_lays rfl (o' := 314) (by assumption) (by omega) rfl ?_
      refine J_ild S_X10_lays rfl rfl ?_
      refine J_C S_X10_lays rfl ?_
      refine J_CSx S_X10_lays rfl rfl (by simp) (hc2) rfl ?_
      refine J_iald S_X10_lays rfl (by assumption) (by omega) rfl (by omega) (by decide) ?_
      rw [e2]
      refine J_iast S_X10_lays rfl (by assumption) (by omega) rfl (by omega) (by decide) ?_
      refine J_inc S_X10_lays rfl rfl rfl ?_
      refine J_goto S_X10_lays rfl ?_
      rw [← nI_succ]
      exact ih (i + 1) (by omega)
  have key : ∀ (r i : Nat), i + r = 24 → mj_J D_X10_lays (mj_ex none (ly (I 314) I 317 n)) 2 [some (.inr (some 313)), some (.inl (nI n)), some (.inl (nI i))] [] (mj_w (tb_e I 317 i)) (0, 0) := by
    intro r
    induction r with
    | zero =>
      intro i hi
      obtain rfl : i = 24 := by omega
      refine J_ild S_X10_lays rfl rfl ?_
      refine J_C S_X10_lays rfl ?_
      refine J_cmp S_X10_lays rfl (fun c5 => ?_) (fun c5 => False.elim (c5 (by decide)))
      refine J_C S_X10_lays rfl ?_
      refine J_ist S_X10_lays rfl rfl ?_
      exact key2 n 0 (by omega)
    | succ r ih =>
      intro i hi
      refine J_ild S_X10_lays rfl rfl ?_
      refine J_C S_X10_lays rfl ?_
      refine J_cmp S_X10_lays rfl (fun c5 => False.elim (nI_ge (b := 24) (by omega) (by decide) c5)) (fun c5 => ?_)
      refine J_ald S_X10_lays rfl rfl ?_
      refine J_getR S_X10_lays rfl (o' := 317) (by assumption) (by omega) rfl ?_
      refine J_ild S_X10_lays rfl rfl ?_
      refine J_C S_X10_lays rfl ?_
      refine J_iast S_X10_lays rfl (by assumption) (by omega) rfl (by omega) (by decide) ?_
      refine J_inc S_X10_lays rfl rfl rfl ?_
      refine J_goto S_X10_lays rfl ?_
      rw [← nI_succ]
      exact ih (i + 1) (by omega)
  refine J_C S_X10_lays rfl ?_
  refine J_ist S_X10_lays rfl rfl ?_
  exact key 24 0 rfl
theorem C_X10_answerOf (hI : IV (I 314)) {k : Nat} (hk : k < 8) (he : vk (I 314) k 4 = 1) : mj_R D_X10_answerOf [.inr (some 313), .inl (nI k)] (mj_w I) (mj_ex (some (.inl (qa (I 314) (I 317) (I 318) k))) I) := by
  have m0 := s_313
  have m1 := s_314
  have m4 := s_317
  have m5 := s_318
  obtain ⟨w4, w0, w1, wt, w2, w3, wp, wr, wx, -⟩ := hI.wv hk he
  have hv0 := C_X10_v (I := I) (k := k) (f := 0)
  have hv1 := C_X10_v (I := I) (k := k) (f := 1)
  have hv2 := C_X10_v (I := I) (k := k) (f := 2)
  have hv3 := C_X10_v (I := I) (k := k) (f := 3)
  have g1 : I 314 (615 + 9 * k + 1) = nI (tn (vk (I 314) k 1)) := w1.1
  have g2 : I 314 (615 + 9 * k + 2) = nI (tn (vk (I 314) k 2)) := w2.1
  have g3 : I 314 (615 + 9 * k + 3) = nI (tn (vk (I 314) k 3)) := w3.1
  have b1 := w1.2
  have b2 := w2.2
  have b3 := w3.2
  have g0 : I 314 (615 + 9 * k + 0) = vk (I 314) k 0 := rfl
  refine mj_enter (by decide +kernel) (Nat.le_of_ble_eq_true rfl) ?_
  by_cases h4 : vk (I 314) k 0 = 4
  · obtain ⟨ha, hb⟩ := wp h4
    refine J_ald S_X10_answerOf rfl rfl ?_
    refine J_getR S_X10_answerOf rfl (o' := 314) (by assumption) (by omega) rfl ?_
    refine J_ild S_X10_answerOf rfl rfl ?_
    refine J_C S_X10_answerOf rfl ?_
    refine J_CSx S_X10_answerOf rfl rfl (by simp) (hv0) rfl ?_
    refine J_iald S_X10_answerOf rfl (by assumption) (by omega) rfl (by omega) (by decide) ?_
    refine J_ist S_X10_answerOf rfl rfl ?_
    refine J_ild S_X10_answerOf rfl rfl ?_
    refine J_C S_X10_answerOf rfl ?_
    refine J_cmp S_X10_answerOf rfl (fun c13 => False.elim (c13 h4)) (fun c13 => ?_)
    refine J_ald S_X10_answerOf rfl rfl ?_
    refine J_getR S_X10_answerOf rfl (o' := 318) (by assumption) (by omega) rfl ?_
    refine J_ald S_X10_answerOf rfl rfl ?_
    refine J_getR S_X10_answerOf rfl (o' := 314) (by assumption) (by omega) rfl ?_
    refine J_ild S_X10_answerOf rfl rfl ?_
    refine J_C S_X10_answerOf rfl ?_
    refine J_CSx S_X10_answerOf rfl rfl (by simp) (hv2) rfl ?_
    refine J_iald S_X10_answerOf rfl (by assumption) (by omega) rfl (by omega) (by decide) ?_
    rw [g2]
    refine J_iald S_X10_answerOf rfl (by assumption) (by omega) rfl (by omega) (by decide) ?_
    refine J_ald S_X10_answerOf rfl rfl ?_
    refine J_getR S_X10_answerOf rfl (o' := 318) (by assumption) (by omega) rfl ?_
    refine J_ald S_X10_answerOf rfl rfl ?_
    refine J_getR S_X10_answerOf rfl (o' := 314) (by assumption) (by omega) rfl ?_
    refine J_ild S_X10_answerOf rfl rfl ?_
    refine J_C S_X10_answerOf rfl ?_
    refine J_CSx S_X10_answerOf rfl rfl (by simp) (hv3) rfl ?_
    refine J_iald S_X10_answerOf rfl (by assumption) (by omega) rfl (by omega) (by decide) ?_
    rw [g3]
    refine J_iald S_X10_answerOf rfl (by assumption) (by omega) rfl (by omega) (by decide) ?_
    refine J_bin S_X10_answerOf rfl ?_
    refine J_retI S_X10_answerOf rfl ?_
    rw [qa, if_pos h4]; exact ⟨rfl, rfl⟩
  · have hfl := wr h4
    have hw0 := w0.2
    have w00 := w0.1
    generalize hkd : vk (I 314) k 0 = kd at w00 hw0 wt h4 g0
    have qe : qa (I 314) (I 317) (I 318) k = rgA kd (I 317) (tn (vk (I 314) k 1)) (tn (vk (I 314) k 2)) (tn (vk (I 314) k 3) + 1 - tn (vk (I 314) k 2)) := by rw [qa, hkd, if_neg h4]
    generalize hT : I 317 = T at qe
    generalize ht : tn (vk (I 314) k 1) = t at *
    generalize hf : tn (vk (I 314) k 2) = f at *
    generalize hlst : tn (vk (I 314) k 3) = g at *
    have loop : ∀ (r i : Nat) (q5 q6 : Option mj_V), f + i + r = g + 1 → mj_J D_X10_answerOf (mj_ex (some (.inl (qa (I 314) T (I 318) k))) I) 71 [some (.inr (some 313)), some (.inl (nI k)), some (.inl kd), some (.inl (rgA kd T t f i)), some (.inl (nI (f + i))), q5, q6] [] (mj_w I) (0, 0) := by
      intro r
      induction r with
      | zero =>
        intro i q5 q6 hi
        refine J_ild S_X10_answerOf rfl rfl ?_
        refine J_ald S_X10_answerOf rfl rfl ?_
        refine J_getR S_X10_answerOf rfl (o' := 314) (by assumption) (by omega) rfl ?_
        refine J_ild S_X10_answerOf rfl rfl ?_
        refine J_C S_X10_answerOf rfl ?_
        refine J_CSx S_X10_answerOf rfl rfl (by simp) (hv3) rfl ?_
        refine J_iald S_X10_answerOf rfl (by assumption) (by omega) rfl (by omega) (by decide) ?_
        rw [g3]
        refine J_cmp S_X10_answerOf rfl (fun c83 => ?_) (fun c83 => False.elim (c83 (nI_lt (by omega) (by omega))))
        refine J_ild S_X10_answerOf rfl rfl ?_
        refine J_retI S_X10_answerOf rfl ?_
        rw [qe, show g + 1 - f = i by omega]; exact ⟨rfl, rfl⟩
      | succ r ih =>
        intro i q5 q6 hi
        have eix : (12 : Int32) * I 314 (615 + 9 * k + 1) + nI (f + i) = nI (12 * t + (f + i)) := by rw [g1, show (12 : Int32) = nI 12 from rfl, pk_mul, nI_add]
        have eiy : (12 : Int32) + nI (f + i) = nI (12 + (f + i)) := by rw [show (12 : Int32) = nI 12 from rfl, nI_add]
        have eT : ∀ c, I (313 + 4) c = T c := fun c => by rw [← hT]
        have nx : ∀ x q5 q6, stA kd (rgA kd T t f i) (T (12 * t + (f + i))) (T (12 + (f + i))) = x → mj_J D_X10_answerOf (mj_ex (some (.inl (qa (I 314) T (I 318) k))) I) 71 [some (.inr (some 313)), some (.inl (nI k)), some (.inl kd), some (.inl x), some (.inl (nI (f + i) + 1)), q5, q6] [] (mj_w I) (0, 0) := by
          intro x q5 q6 hx
          rw [← hx, ← nI_succ]
          exact ih (i + 1) q5 q6 (by omega)
        have eT2 : ∀ c, I 317 c = T c := fun c => by rw [← hT]
        rw [stA] at nx
        refine J_ild S_X10_answerOf rfl rfl ?_
        refine J_ald S_X10_answerOf rfl rfl ?_
        refine J_getR S_X10_answerOf rfl (o' := 314) (by assumption) (by omega) rfl ?_
        refine J_ild S_X10_answerOf rfl rfl ?_
        refine J_C S_X10_answerOf rfl ?_
        refine J_CSx S_X10_answerOf rfl rfl (by simp) (hv3) rfl ?_
        refine J_iald S_X10_answerOf rfl (by assumption) (by omega) rfl (by omega) (by decide) ?_
        rw [g3]
        refine J_cmp S_X10_answerOf rfl (fun c83 => False.elim (nI_nlt (by omega) (by omega) c83)) (fun c83 => ?_)
        refine J_ald S_X10_answerOf rfl rfl ?_
        refine J_getR S_X10_answerOf rfl (o' := 317) (by assumption) (by omega) rfl ?_
        refine J_C S_X10_answerOf rfl ?_
        refine J_ald S_X10_answerOf rfl rfl ?_
        refine J_getR S_X10_answerOf rfl (o' := 314) (by assumption) (by omega) rfl ?_
        refine J_ild S_X10_answerOf rfl rfl ?_
        refine J_C S_X10_answerOf rfl ?_
        refine J_CSx S_X10_answerOf rfl rfl (by simp) (hv1) rfl ?_
        refine J_iald S_X10_answerOf rfl (by assumption) (by omega) rfl (by omega) (by decide) ?_
        refine J_bin S_X10_answerOf rfl ?_
        refine J_ild S_X10_answerOf rfl rfl ?_
        refine J_bin S_X10_answerOf rfl ?_
        rw [eix]
        refine J_iald S_X10_answerOf rfl (by assumption) (by omega) rfl (by omega) (by decide) ?_
        rw [eT2]
        refine J_ist S_X10_answerOf rfl rfl ?_
        refine J_ald S_X10_answerOf rfl rfl ?_
        refine J_getR S_X10_answerOf rfl (o' := 317) (by assumption) (by omega) rfl ?_
        refine J_C S_X10_answerOf rfl ?_
        refine J_ild S_X10_answerOf rfl rfl ?_
        refine J_bin S_X10_answerOf rfl ?_
        rw [eiy]
        refine J_iald S_X10_answerOf rfl (by assumption) (by omega) rfl (by omega) (by decide) ?_
        rw [eT2]
        refine J_ist S_X10_answerOf rfl rfl ?_
        refine J_ild S_X10_answerOf rfl rfl ?_
        refine J_sw S_X10_answerOf rfl ⟨fun w0 => ?_, fun n0 => ⟨fun w1 => ?_, fun n1 => ⟨fun w2 => ?_, fun n2 => ?_⟩⟩⟩
        · refine J_ild S_X10_answerOf rfl rfl ?_
          refine J_ild S_X10_answerOf rfl rfl ?_
          refine J_if S_X10_answerOf rfl (fun c151 => ?_) (fun c151 => ?_)
          · refine J_ild S_X10_answerOf rfl rfl ?_
            refine J_bin S_X10_answerOf rfl ?_
            refine J_ist S_X10_answerOf rfl rfl ?_
            refine J_goto S_X10_answerOf rfl ?_
            refine J_inc S_X10_answerOf rfl rfl rfl ?_
            refine J_goto S_X10_answerOf rfl ?_
            refine nx _ _ _ ?_
            rw [if_pos w0, if_neg (Int32.not_lt.mpr c151)]
          · refine J_C S_X10_answerOf rfl ?_
            refine J_goto S_X10_answerOf rfl ?_
            refine J_bin S_X10_answerOf rfl ?_
            refine J_ist S_X10_answerOf rfl rfl ?_
            refine J_goto S_X10_answerOf rfl ?_
            refine J_inc S_X10_answerOf rfl rfl rfl ?_
            refine J_goto S_X10_answerOf rfl ?_
            refine nx _ _ _ ?_
            rw [if_pos w0, if_pos (Int32.not_le.mp c151)]
        · refine J_ild S_X10_answerOf rfl rfl ?_
          refine J_ild S_X10_answerOf rfl rfl ?_
          refine J_if S_X10_answerOf rfl (fun c168 => ?_) (fun c168 => ?_)
          · refine J_C S_X10_answerOf rfl ?_
            refine J_bin S_X10_answerOf rfl ?_
            refine J_ist S_X10_answerOf rfl rfl ?_
            refine J_goto S_X10_answerOf rfl ?_
            refine J_inc S_X10_answerOf rfl rfl rfl ?_
            refine J_goto S_X10_answerOf rfl ?_
            refine nx _ _ _ ?_
            rw [if_neg n0, if_pos w1, if_neg (Int32.not_lt.mpr c168)]
          · refine J_C S_X10_answerOf rfl ?_
            refine J_goto S_X10_answerOf rfl ?_
            refine J_bin S_X10_answerOf rfl ?_
            refine J_ist S_X10_answerOf rfl rfl ?_
            refine J_goto S_X10_answerOf rfl ?_
            refine J_inc S_X10_answerOf rfl rfl rfl ?_
            refine J_goto S_X10_answerOf rfl ?_
            refine nx _ _ _ ?_
            rw [if_neg n0, if_pos w1, if_pos (Int32.not_le.mp c168)]
        · refine J_ild S_X10_answerOf rfl rfl ?_
          refine J_ild S_X10_answerOf rfl rfl ?_
          refine J_cmp S_X10_answerOf rfl (fun c184 => ?_) (fun c184 => ?_)
          · refine J_ild S_X10_answerOf rfl rfl ?_
            refine J_ist S_X10_answerOf rfl rfl ?_
            refine J_goto S_X10_answerOf rfl ?_
            refine J_inc S_X10_answerOf rfl rfl rfl ?_
            refine J_goto S_X10_answerOf rfl ?_
            refine nx _ _ _ ?_
            rw [if_neg n0, if_neg n1, if_pos w2, if_neg (Int32.not_lt.mpr c184)]
          · refine J_ild S_X10_answerOf rfl rfl ?_
            refine J_goto S_X10_answerOf rfl ?_
            refine J_ist S_X10_answerOf rfl rfl ?_
            refine J_goto S_X10_answerOf rfl ?_
            refine J_inc S_X10_answerOf rfl rfl rfl ?_
            refine J_goto S_X10_answerOf rfl ?_
            refine nx _ _ _ ?_
            rw [if_neg n0, if_neg n1, if_pos w2, if_pos (Int32.not_le.mp c184)]
        · refine J_ild S_X10_answerOf rfl rfl ?_
          refine J_ild S_X10_answerOf rfl rfl ?_
          refine J_if S_X10_answerOf rfl (fun c200 => ?_) (fun c200 => ?_)
          · refine J_C S_X10_answerOf rfl ?_
            refine J_goto S_X10_answerOf rfl ?_
            refine J_bin S_X10_answerOf rfl ?_
            refine J_ist S_X10_answerOf rfl rfl ?_
            refine J_inc S_X10_answerOf rfl rfl rfl ?_
            refine J_goto S_X10_answerOf rfl ?_
            refine nx _ _ _ ?_
            rw [if_neg n0, if_neg n1, if_neg n2, if_pos (Or.inl c200)]
          · refine J_ild S_X10_answerOf rfl rfl ?_
            refine J_if S_X10_answerOf rfl (fun c205 => ?_) (fun c205 => ?_)
            · refine J_ild S_X10_answerOf rfl rfl ?_
              refine J_ild S_X10_answerOf rfl rfl ?_
              refine J_bin S_X10_answerOf rfl ?_
              refine J_bin S_X10_answerOf rfl ?_
              refine J_ist S_X10_answerOf rfl rfl ?_
              refine J_inc S_X10_answerOf rfl rfl rfl ?_
              refine J_goto S_X10_answerOf rfl ?_
              refine nx _ _ _ ?_
              rw [if_neg n0, if_neg n1, if_neg n2, if_neg (fun h => h.elim c200 (Int32.not_lt.mpr c205))]
            · refine J_C S_X10_answerOf rfl ?_
              refine J_goto S_X10_answerOf rfl ?_
              refine J_bin S_X10_answerOf rfl ?_
              refine J_ist S_X10_answerOf rfl rfl ?_
              refine J_inc S_X10_answerOf rfl rfl rfl ?_
              refine J_goto S_X10_answerOf rfl ?_
              refine nx _ _ _ ?_
              rw [if_neg n0, if_neg n1, if_neg n2, if_pos (Or.inr (Int32.not_le.mp c205))]
    refine J_ald S_X10_answerOf rfl rfl ?_
    refine J_getR S_X10_answerOf rfl (o' := 314) (by assumption) (by omega) rfl ?_
    refine J_ild S_X10_answerOf rfl rfl ?_
    refine J_C S_X10_answerOf rfl ?_
    refine J_CSx S_X10_answerOf rfl rfl (by simp) (hv0) rfl ?_
    refine J_iald S_X10_answerOf rfl (by assumption) (by omega) rfl (by omega) (by decide) ?_
    rw [g0]
    refine J_ist S_X10_answerOf rfl rfl ?_
    refine J_ild S_X10_answerOf rfl rfl ?_
    refine J_C S_X10_answerOf rfl ?_
    refine J_cmp S_X10_answerOf rfl (fun c13 => ?_) (fun c13 => False.elim (h4 c13))
    refine J_ild S_X10_answerOf rfl rfl ?_
    refine J_C S_X10_answerOf rfl ?_
    refine J_cmp S_X10_answerOf rfl (fun c50 => ?_) (fun c50 => ?_)
    · refine J_C S_X10_answerOf rfl ?_
      refine J_ist S_X10_answerOf rfl rfl ?_
      refine J_ald S_X10_answerOf rfl rfl ?_
      refine J_getR S_X10_answerOf rfl (o' := 314) (by assumption) (by omega) rfl ?_
      refine J_ild S_X10_answerOf rfl rfl ?_
      refine J_C S_X10_answerOf rfl ?_
      refine J_CSx S_X10_answerOf rfl rfl (by simp) (hv2) rfl ?_
      refine J_iald S_X10_answerOf rfl (by assumption) (by omega) rfl (by omega) (by decide) ?_
      rw [g2]
      refine J_ist S_X10_answerOf rfl rfl ?_
      have h := loop (g + 1 - f) 0 none none (by omega)
      rw [rgA, if_neg c50] at h
      exact h
    · refine J_C S_X10_answerOf rfl ?_
      refine J_goto S_X10_answerOf rfl ?_
      refine J_ist S_X10_answerOf rfl rfl ?_
      refine J_ald S_X10_answerOf rfl rfl ?_
      refine J_getR S_X10_answerOf rfl (o' := 314) (by assumption) (by omega) rfl ?_
      refine J_ild S_X10_answerOf rfl rfl ?_
      refine J_C S_X10_answerOf rfl ?_
      refine J_CSx S_X10_answerOf rfl rfl (by simp) (hv2) rfl ?_
      refine J_iald S_X10_answerOf rfl (by assumption) (by omega) rfl (by omega) (by decide) ?_
      rw [g2]
      refine J_ist S_X10_answerOf rfl rfl ?_
      have h := loop (g + 1 - f) 0 none none (by omega)
      rw [rgA, if_pos c50] at h
      exact h
theorem C_X10_answerAt (hI : IV (I 314)) {k n : Nat} (hk : k < 8) (hn : n ≤ tn (I 314 0)) : mj_R D_X10_answerAt [.inr (some 313), .inl (nI k), .inl (nI n)] (mj_w I) (mj_px (fun r I' => r = some (.inl (aq (I 314) n k)) ∧ Ms I I')) := by
  have m0 := s_313
  have m1 := s_314
  have m5 := s_318
  refine mj_enter (by decide +kernel) (Nat.le_of_ble_eq_true rfl) ?_
  have key : ∀ (r i : Nat) (I' : mj_I), i + r = k + 1 → Ms I I' → (∀ c, c < 24 → I' 317 c = tabv (I 314) c n) → (∀ a, a < i → I' 318 a = aq (I 314) n a) → mj_J D_X10_answerAt (mj_px (fun r I' => r = some (.inl (aq (I 314) n k)) ∧ Ms I I')) 7 [some (.inr (some 313)), some (.inl (nI k)), some (.inl (nI n)), some (.inl (nI i))] [] (mj_w I') (0, 0) := by
    intro r
    induction r with
    | zero =>
      intro i I' hi hM hT hA
      obtain rfl : i = k + 1 := by omega
      refine J_ild S_X10_answerAt rfl rfl ?_
      refine J_ild S_X10_answerAt rfl rfl ?_
      refine J_cmp S_X10_answerAt rfl (fun c9 => ?_) (fun c9 => False.elim (c9 (nI_lt (by omega) (by omega))))
      refine J_ald S_X10_answerAt rfl rfl ?_
      refine J_getR S_X10_answerAt rfl (o' := 318) (by assumption) (by omega) rfl ?_
      refine J_ild S_X10_answerAt rfl rfl ?_
      refine J_iald S_X10_answerAt rfl (by assumption) (by omega) rfl (by omega) (by decide) ?_
      refine J_retI S_X10_answerAt rfl ?_
      exact ⟨I', rfl, by rw [hA k (by omega)], hM⟩
    | succ r ih =>
      intro i I' hi hM hT hA
      have e314 : I' 314 = I 314 := hM.1 314 (by decide) (by decide) (by decide) (by decide) (by decide)
      have hv4 := C_X10_v (I := I') (k := i) (f := 4)
      have g4 : I' 314 (615 + 9 * i + 4) = vk (I 314) i 4 := by rw [e314]; rfl
      have aqe : aq (I 314) n i = if vk (I 314) i 4 = 1 then qa (I 314) (fun c => tabv (I 314) c n) (tb_n 0 (fun g k => if vk (I 314) k 4 = 1 then qa (I 314) (fun c => tabv (I 314) c n) g k else 0) i) i else 0 := rfl
      have nx : ∀ x, x = aq (I 314) n i → mj_J D_X10_answerAt (mj_px (fun r I' => r = some (.inl (aq (I 314) n k)) ∧ Ms I I')) 7 [some (.inr (some 313)), some (.inl (nI k)), some (.inl (nI n)), some (.inl (nI i + 1))] [] (mj_w (mj_up I' 318 i x)) (0, 0) := by
        intro x hx
        rw [← nI_succ]
        refine ih (i + 1) _ (by omega) (ms_up hM (by decide)) (fun c hc => by rw [mj_up_ne (by decide)]; exact hT c hc) (fun a ha => ?_)
        rw [mj_up_eq]
        by_cases hai : a = i
        · subst hai; rw [up_s, hx]
        · rw [up_n hai]; exact hA a (by omega)
      by_cases he : vk (I 314) i 4 = 1
      · have hao := C_X10_answerOf (I := I') (by rw [e314]; exact hI) (k := i) (by omega) (by rw [e314]; exact he)
        rw [e314] at hao
        rw [if_pos he] at aqe
        obtain ⟨w4, w0, w1, wt, w2, w3, wp, wr, wx, -⟩ := hI.wv (show i < 8 by omega) he
        have heq : qa (I 314) (I' 317) (I' 318) i = aq (I 314) n i := by
          rw [aqe]
          unfold qa
          by_cases h4 : vk (I 314) i 0 = 4
          · obtain ⟨ha, hb⟩ := wp h4
            rw [if_pos h4, if_pos h4, hA _ ha, hA _ hb, tb_lt ha, tb_lt hb]
            rfl
          · rw [if_neg h4, if_neg h4]
            have hfl := wr h4
            have b1 := w1.2
            have b3 := w3.2
            have gen : ∀ m, tn (vk (I 314) i 2) + m ≤ tn (vk (I 314) i 3) + 1 → rgA (vk (I 314) i 0) (I' 317) (tn (vk (I 314) i 1)) (tn (vk (I 314) i 2)) m = rgA (vk (I 314) i 0) (fun c => tabv (I 314) c n) (tn (vk (I 314) i 1)) (tn (vk (I 314) i 2)) m := by
              intro m
              induction m with
              | zero => intro _; rfl
              | succ m ihm =>
                intro hm
                rw [rgA, rgA, ihm (by omega), hT _ (by omega), hT _ (by omega)]
            exact gen _ (by omega)
        refine J_ild S_X10_answerAt rfl rfl ?_
        refine J_ild S_X10_answerAt rfl rfl ?_
        refine J_cmp S_X10_answerAt rfl (fun c9 => False.elim (nI_nlt (by omega) (by omega) c9)) (fun c9 => ?_)
        refine J_ald S_X10_answerAt rfl rfl ?_
        refine J_getR S_X10_answerAt rfl (o' := 318) (by assumption) (by omega) rfl ?_
        refine J_ild S_X10_answerAt rfl rfl ?_
        refine J_ald S_X10_answerAt rfl rfl ?_
        refine J_getR S_X10_answerAt rfl (o' := 314) (by assumption) (by omega) rfl ?_
        refine J_ild S_X10_answerAt rfl rfl ?_
        refine J_C S_X10_answerAt rfl ?_
        refine J_CSx S_X10_answerAt rfl rfl (by simp) (hv4) rfl ?_
        refine J_iald S_X10_answerAt rfl (by assumption) (by omega) rfl (by omega) (by decide) ?_
        rw [g4]
        refine J_C S_X10_answerAt rfl ?_
        refine J_cmp S_X10_answerAt rfl (fun c28 => False.elim (c28 he)) (fun c28 => ?_)
        refine J_ald S_X10_answerAt rfl rfl ?_
        refine J_ild S_X10_answerAt rfl rfl ?_
        refine J_CVx S_X10_answerAt rfl rfl (by assumption) (by omega) (by simp) (hao) rfl ?_
        refine J_goto S_X10_answerAt rfl ?_
        refine J_iast S_X10_answerAt rfl (by assumption) (by omega) rfl (by omega) (by decide) ?_
        refine J_inc S_X10_answerAt rfl rfl rfl ?_
        refine J_goto S_X10_answerAt rfl ?_
        exact nx _ heq
      · rw [if_neg he] at aqe
        refine J_ild S_X10_answerAt rfl rfl ?_
        refine J_ild S_X10_answerAt rfl rfl ?_
        refine J_cmp S_X10_answerAt rfl (fun c9 => False.elim (nI_nlt (by omega) (by omega) c9)) (fun c9 => ?_)
        refine J_ald S_X10_answerAt rfl rfl ?_
        refine J_getR S_X10_answerAt rfl (o' := 318) (by assumption) (by omega) rfl ?_
        refine J_ild S_X10_answerAt rfl rfl ?_
        refine J_ald S_X10_answerAt rfl rfl ?_
        refine J_getR S_X10_answerAt rfl (o' := 314) (by assumption) (by omega) rfl ?_
        refine J_ild S_X10_answerAt rfl rfl ?_
        refine J_C S_X10_answerAt rfl ?_
        refine J_CSx S_X10_answerAt rfl rfl (by simp) (hv4) rfl ?_
        refine J_iald S_X10_answerAt rfl (by assumption) (by omega) rfl (by omega) (by decide) ?_
        rw [g4]
        refine J_C S_X10_answerAt rfl ?_
        refine J_cmp S_X10_answerAt rfl (fun c28 => ?_) (fun c28 => False.elim (he c28))
        refine J_C S_X10_answerAt rfl ?_
        refine J_iast S_X10_answerAt rfl (by assumption) (by omega) rfl (by omega) (by decide) ?_
        refine J_inc S_X10_answerAt rfl rfl rfl ?_
        refine J_goto S_X10_answerAt rfl ?_
        exact nx _ aqe.symm
  refine J_ald S_X10_answerAt rfl rfl ?_
  refine J_ild S_X10_answerAt rfl rfl ?_
  refine J_CVx S_X10_answerAt rfl rfl (by assumption) (by omega) (by simp) (C_X10_lays hI hn) rfl ?_
  refine J_C S_X10_answerAt rfl ?_
  refine J_ist S_X10_answerAt rfl rfl ?_
  exact key (k + 1) 0 _ (by omega) ⟨fun o _ h2 _ _ _ => ly_ne h2 n, by rw [ly_ne (by decide)], by rw [ly_ne (by decide)]⟩ (fun c hc => ly_at hc n) (fun a h => absurd h (Nat.not_lt_zero a))
end An
