theorem s_294 : mj_sh 294 = (4, 2) := by decide +kernel
theorem s_295 : mj_sh 295 = (6, 1) := by decide +kernel
theorem s_296 : mj_sh 296 = (11, 24) := by decide +kernel
theorem s_297 : mj_sh 297 = (11, 8) := by decide +kernel
def tvo (T : Nat → Int32) : Prop := ∀ c, c < 24 → T c = -1 ∨ rg (T c) 99
theorem rg_nn {x : Int32} {n : Nat} (h : rg x n) (hn : n < 2 ^ 31) : ¬ x < 0 := by
  rw [h.1]
  exact nI_pos (by have := h.2; omega)
theorem rg_m1 {x : Int32} {n : Nat} (h : rg x n) (hn : n < 2 ^ 31) : ¬ x = -1 := fun e => rg_nn h hn (by rw [e]; decide)
theorem amt_e {x : Int32} (h : x = -1 ∨ rg x 99) : vl_amt x = if x < 0 then 0 else x := by
  rcases h with rfl | h
  · decide
  · rw [vl_amt, if_neg (rg_m1 h (by decide)), if_neg (rg_nn h (by decide))]
theorem prs_e {x : Int32} (h : x = -1 ∨ rg x 99) : vl_prs x = if x < 0 then 0 else 1 := by
  rcases h with rfl | h
  · decide
  · rw [vl_prs, if_neg (rg_m1 h (by decide)), if_neg (rg_nn h (by decide))]
theorem amt_m {x y : Int32} (h : x = -1 ∨ rg x 99) (h2 : y = -1 ∨ rg y 99) : vl_amt x * vl_amt y = if x < 0 ∨ y < 0 then 0 else x * y := by
  rw [amt_e h, amt_e h2]
  by_cases h3 : x < 0
  · rw [if_pos h3, if_pos (Or.inl h3), Int32.zero_mul]
  · by_cases h4 : y < 0
    · rw [if_pos h4, if_pos (Or.inr h4), Int32.mul_zero]
    · rw [if_neg h3, if_neg h4, if_neg (fun h => h.elim h3 h4)]
def aT (v : mv) (T : Nat → Int32) : Nat → Int32 := tb_v 0 (fun g k => if vk v k 4 = 1 then qa v T g k else 0)
theorem aT_eq {v : mv} {T : Nat → Int32} (hI : IV v) {k : Nat} (hk : k < 8) (he : vk v k 4 = 1) : aT v T k = qa v T (aT v T) k := by
  obtain ⟨w4, w0, w1, wt, w2, w3, wp, wr, wx, -⟩ := hI.wv hk he
  have e : aT v T k = if vk v k 4 = 1 then qa v T (tb_n 0 (fun g k => if vk v k 4 = 1 then qa v T g k else 0) k) k else 0 := rfl
  rw [e, if_pos he]
  unfold qa
  by_cases h4 : vk v k 0 = 4
  · obtain ⟨ha, hb⟩ := wp h4
    rw [if_pos h4, if_pos h4, tb_lt ha, tb_lt hb]
    rfl
  · rw [if_neg h4, if_neg h4]
section Rp
variable {I : mj_I} {b : Nat} {v : mv}
theorem C_X4_answer {i : Nat} (hi : i < 8) : mj_R D_X4_answer [.inr (some 294), .inl (nI i)] (mj_w I) (mj_ex (some (.inl (I 297 i))) I) := by
  have h1 := s_294
  have h2 := s_297
  refine mj_enter (by decide +kernel) (Nat.le_of_ble_eq_true rfl) ?_
  refine J_ild S_X4_answer rfl rfl ?_
  refine J_if S_X4_answer rfl (fun c1 => False.elim (nI_pos (by omega) c1)) (fun c1 => ?_)
  refine J_ild S_X4_answer rfl rfl ?_
  refine J_ald S_X4_answer rfl rfl ?_
  refine J_getR S_X4_answer rfl (o' := 297) (by assumption) (by omega) rfl ?_
  refine J_len S_X4_answer rfl (by assumption) (by omega) (by decide) ?_
  refine J_cmp S_X4_answer rfl (fun c10 => False.elim (nI_ge hi (by omega) c10)) (fun c10 => ?_)
  refine J_ald S_X4_answer rfl rfl ?_
  refine J_getR S_X4_answer rfl (o' := 297) (by assumption) (by omega) rfl ?_
  refine J_ild S_X4_answer rfl rfl ?_
  refine J_iald S_X4_answer rfl (by assumption) (by omega) rfl (by omega) (by decide) ?_
  refine J_goto S_X4_answer rfl ?_
  refine J_retI S_X4_answer rfl ?_
  exact ⟨rfl, rfl⟩
theorem C_X4_difference (hB : mj_isB b) (hR : RB I b v) (hI : IV v) {k : Nat} (hk : k < 8) (he : vk v k 4 = 1) (hk4 : vk v k 0 = 4) : mj_R D_X4_difference [.inr (some 294), .inr (some (b + 7 + k))] (mj_w I) (mj_ex (some (.inl (I 297 (tn (vk v k 2)) - I 297 (tn (vk v k 3))))) I) := by
  obtain ⟨w4, w0, w1, wt, w2, w3, wp, wr, wx, -⟩ := hI.wv hk he
  obtain ⟨r1, r2, r3, r4, -⟩ := (hR.2.2.2.2 k hk).2.2 he
  obtain ⟨h0, h1, h2, h3, h4', h5, h6, hv, hb⟩ := hB
  have hvk := hv k hk
  obtain ⟨ha, hbq⟩ := wp hk4
  have g2 : I (b + 7 + k) 3 = nI (tn (vk v k 2)) := r3.trans w2.1
  have g3 : I (b + 7 + k) 4 = nI (tn (vk v k 3)) := r4.trans w3.1
  have m4 := s_294
  refine mj_enter (by decide +kernel) (Nat.le_of_ble_eq_true rfl) ?_
  refine J_ald S_X4_difference rfl rfl ?_
  refine J_ald S_X4_difference rfl rfl ?_
  refine J_getI S_X4_difference rfl (by assumption) (by omega) ?_
  rw [g2]
  refine J_CVx S_X4_difference rfl rfl (by assumption) (by omega) (by simp) (C_X4_answer (I := I) (show tn (vk v k 2) < 8 by omega)) rfl ?_
  refine J_ald S_X4_difference rfl rfl ?_
  refine J_ald S_X4_difference rfl rfl ?_
  refine J_getI S_X4_difference rfl (by assumption) (by omega) ?_
  rw [g3]
  refine J_CVx S_X4_difference rfl rfl (by assumption) (by omega) (by simp) (C_X4_answer (I := I) (show tn (vk v k 3) < 8 by omega)) rfl ?_
  refine J_bin S_X4_difference rfl ?_
  refine J_retI S_X4_difference rfl ?_
  exact ⟨rfl, rfl⟩
theorem C_X8_rangeAnswer (hB : mj_isB b) (hR : RB I b v) (hI : IV v) (hT : tvo (I 296)) {k : Nat} (hk : k < 8) (he : vk v k 4 = 1) (h4 : ¬ vk v k 0 = 4) : mj_R D_X8_rangeAnswer [.inr (some (b + 7 + k)), .inr (some 295)] (mj_w I) (mj_ex (some (.inl (qa v (I 296) (I 297) k))) I) := by
  have m5 := s_295
  have m6 := s_296
  obtain ⟨w4, w0, w1, wt, w2, w3, wp, wr, wx, -⟩ := hI.wv hk he
  obtain ⟨r1, r2, r3, r4, -⟩ := (hR.2.2.2.2 k hk).2.2 he
  obtain ⟨h0, h1, h2, h3, h4', h5, h6, hv, hb⟩ := hB
  have hvk := hv k hk
  have hw0 := w0.2
  have w00 := w0.1
  have hfl := wr h4
  have g1 : I (b + 7 + k) 2 = nI (tn (vk v k 1)) := r2.trans w1.1
  have g2 : I (b + 7 + k) 3 = nI (tn (vk v k 2)) := r3.trans w2.1
  have g3 : I (b + 7 + k) 4 = nI (tn (vk v k 3)) := r4.trans w3.1
  have b1 := w1.2
  have b2 := w2.2
  have b3 := w3.2
  have qe : qa v (I 296) (I 297) k = rgA (vk v k 0) (I 296) (tn (vk v k 1)) (tn (vk v k 2)) (tn (vk v k 3) + 1 - tn (vk v k 2)) := by rw [qa, if_neg h4]
  have hjt : 3 ≤ vk v k 0 → tn (vk v k 1) = 0 := fun h => by rw [wt h]; rfl
  have hk3 : ¬ vk v k 0 = 0 → ¬ vk v k 0 = 1 → ¬ vk v k 0 = 2 → 3 ≤ vk v k 0 := by
    intro a1 a2 a3
    exact Decidable.byContradiction (fun h => ((k_012 w0).mpr h).elim a1 (fun h => h.elim a2 a3))
  generalize hq : qa v (I 296) (I 297) k = ans at qe
  generalize hkd : vk v k 0 = kd at *
  generalize ht : tn (vk v k 1) = t at *
  generalize hf : tn (vk v k 2) = f at *
  generalize hlst : tn (vk v k 3) = g at *
  refine mj_enter (by decide +kernel) (Nat.le_of_ble_eq_true rfl) ?_
  have loop : ∀ (r i : Nat) (q4 : Option mj_V), f + i + r = g + 1 → mj_J D_X8_rangeAnswer (mj_ex (some (.inl ans)) I) 19 [some (.inr (some (b + 7 + k))), some (.inr (some 295)), some (.inl (rgA kd (I 296) t f i)), some (.inl (nI (f + i))), q4] [] (mj_w I) (0, 0) := by
    intro r
    induction r with
    | zero =>
      intro i q4 hi
      refine J_ild S_X8_rangeAnswer rfl rfl ?_
      refine J_ald S_X8_rangeAnswer rfl rfl ?_
      refine J_getI S_X8_rangeAnswer rfl (by assumption) (by omega) ?_
      rw [g3]
      refine J_cmp S_X8_rangeAnswer rfl (fun c24 => ?_) (fun c24 => False.elim (c24 (nI_lt (by omega) (by omega))))
      refine J_ild S_X8_rangeAnswer rfl rfl ?_
      refine J_retI S_X8_rangeAnswer rfl ?_
      rw [qe, show g + 1 - f = i by omega]; exact ⟨rfl, rfl⟩
    | succ r ih =>
      intro i q4 hi
      have eix : nI t * 12 + nI (f + i) = nI (12 * t + (f + i)) := by rw [show (12 : Int32) = nI 12 from rfl, pk_mul, nI_add, Nat.mul_comm]
      have eiy : (1 : Int32) * 12 + nI (f + i) = nI (12 + (f + i)) := by rw [show (1 : Int32) * 12 = nI 12 from rfl, nI_add]
      have eiz : (0 : Int32) * 12 + nI (f + i) = nI (f + i) := by rw [show (0 : Int32) * 12 = nI 0 from rfl, nI_add, Nat.zero_add]
      have hx := hT (12 * t + (f + i)) (by omega)
      have hy := hT (12 + (f + i)) (by omega)
      have hat := C_X6_at (I := I) m5 m6 (by decide) (show 12 * t + (f + i) < 24 by omega)
      have hat2 := C_X6_at (I := I) m5 m6 (by decide) (show 12 + (f + i) < 24 by omega)
      have hat3 := C_X6_at (I := I) m5 m6 (by decide) (show f + i < 24 by omega)
      have nx : ∀ x q4, stA kd (rgA kd (I 296) t f i) (I 296 (12 * t + (f + i))) (I 296 (12 + (f + i))) = x → mj_J D_X8_rangeAnswer (mj_ex (some (.inl ans)) I) 19 [some (.inr (some (b + 7 + k))), some (.inr (some 295)), some (.inl x), some (.inl (nI (f + i) + 1)), q4] [] (mj_w I) (0, 0) := by
        intro x q4 hx
        rw [← hx, ← nI_succ]
        exact ih (i + 1) q4 (by omega)
      rw [stA] at nx
      refine J_ild S_X8_rangeAnswer rfl rfl ?_
      refine J_ald S_X8_rangeAnswer rfl rfl ?_
      refine J_getI S_X8_rangeAnswer rfl (by assumption) (by omega) ?_
      rw [g3]
      refine J_cmp S_X8_rangeAnswer rfl (fun c24 => False.elim (nI_nlt (by omega) (by omega) c24)) (fun c24 => ?_)
      refine J_ild S_X8_rangeAnswer rfl rfl ?_
      refine J_C S_X8_rangeAnswer rfl ?_
      refine J_cmp S_X8_rangeAnswer rfl (fun c30 => False.elim (nI_ge (b := 12) (by omega) (by decide) c30)) (fun c30 => ?_)
      refine J_ald S_X8_rangeAnswer rfl rfl ?_
      refine J_ald S_X8_rangeAnswer rfl rfl ?_
      refine J_getI S_X8_rangeAnswer rfl (by assumption) (by omega) ?_
      refine J_ild S_X8_rangeAnswer rfl rfl ?_
      rw [g1]
      refine J_CSx S_X8_rangeAnswer rfl rfl (by simp) (C_X9_cellOf) rfl ?_
      rw [eix]
      refine J_CVx S_X8_rangeAnswer rfl rfl (by assumption) (by omega) (by simp) (hat) rfl ?_
      refine J_ist S_X8_rangeAnswer rfl rfl ?_
      refine J_ald S_X8_rangeAnswer rfl rfl ?_
      refine J_getI S_X8_rangeAnswer rfl (by assumption) (by omega) ?_
      rw [r1]
      refine J_sw S_X8_rangeAnswer rfl ⟨fun w0 => ?_, fun n0 => ⟨fun w1 => ?_, fun n1 => ⟨fun w2 => ?_, fun n2 => ?_⟩⟩⟩
      · refine J_ild S_X8_rangeAnswer rfl rfl ?_
        refine J_ild S_X8_rangeAnswer rfl rfl ?_
        refine J_CSx S_X8_rangeAnswer rfl rfl (by simp) (C_X9_amount) rfl ?_
        refine J_bin S_X8_rangeAnswer rfl ?_
        refine J_ist S_X8_rangeAnswer rfl rfl ?_
        refine J_goto S_X8_rangeAnswer rfl ?_
        refine J_inc S_X8_rangeAnswer rfl rfl rfl ?_
        refine J_goto S_X8_rangeAnswer rfl ?_
        refine nx _ _ ?_
        rw [if_pos w0, ← amt_e hx]
      · refine J_ild S_X8_rangeAnswer rfl rfl ?_
        refine J_ild S_X8_rangeAnswer rfl rfl ?_
        refine J_CSx S_X8_rangeAnswer rfl rfl (by simp) (C_X9_presence) rfl ?_
        refine J_bin S_X8_rangeAnswer rfl ?_
        refine J_ist S_X8_rangeAnswer rfl rfl ?_
        refine J_goto S_X8_rangeAnswer rfl ?_
        refine J_inc S_X8_rangeAnswer rfl rfl rfl ?_
        refine J_goto S_X8_rangeAnswer rfl ?_
        refine nx _ _ ?_
        rw [if_neg n0, if_pos w1, ← prs_e hx]
      · refine J_ild S_X8_rangeAnswer rfl rfl ?_
        refine J_ild S_X8_rangeAnswer rfl rfl ?_
        refine J_max S_X8_rangeAnswer rfl (by decide) ?_
        refine J_ist S_X8_rangeAnswer rfl rfl ?_
        refine J_goto S_X8_rangeAnswer rfl ?_
        refine J_inc S_X8_rangeAnswer rfl rfl rfl ?_
        refine J_goto S_X8_rangeAnswer rfl ?_
        refine nx _ _ ?_
        rw [if_neg n0, if_neg n1, if_pos w2]
      · refine J_ild S_X8_rangeAnswer rfl rfl ?_
        refine J_ald S_X8_rangeAnswer rfl rfl ?_
        refine J_C S_X8_rangeAnswer rfl ?_
        refine J_ild S_X8_rangeAnswer rfl rfl ?_
        refine J_CSx S_X8_rangeAnswer rfl rfl (by simp) (C_X9_cellOf) rfl ?_
        rw [eiz]
        refine J_CVx S_X8_rangeAnswer rfl rfl (by assumption) (by omega) (by simp) (hat3) rfl ?_
        refine J_CSx S_X8_rangeAnswer rfl rfl (by simp) (C_X9_amount) rfl ?_
        refine J_ald S_X8_rangeAnswer rfl rfl ?_
        refine J_C S_X8_rangeAnswer rfl ?_
        refine J_ild S_X8_rangeAnswer rfl rfl ?_
        refine J_CSx S_X8_rangeAnswer rfl rfl (by simp) (C_X9_cellOf) rfl ?_
        rw [eiy]
        refine J_CVx S_X8_rangeAnswer rfl rfl (by assumption) (by omega) (by simp) (hat2) rfl ?_
        refine J_CSx S_X8_rangeAnswer rfl rfl (by simp) (C_X9_amount) rfl ?_
        refine J_bin S_X8_rangeAnswer rfl ?_
        refine J_bin S_X8_rangeAnswer rfl ?_
        refine J_ist S_X8_rangeAnswer rfl rfl ?_
        refine J_inc S_X8_rangeAnswer rfl rfl rfl ?_
        refine J_goto S_X8_rangeAnswer rfl ?_
        refine nx _ _ ?_
        have ht0 := hjt (hk3 n0 n1 n2)
        subst ht0
        rw [if_neg n0, if_neg n1, if_neg n2, ← amt_m hx hy, Nat.mul_zero, Nat.zero_add]
  refine J_ald S_X8_rangeAnswer rfl rfl ?_
  refine J_getI S_X8_rangeAnswer rfl (by assumption) (by omega) ?_
  rw [r1]
  refine J_C S_X8_rangeAnswer rfl ?_
  refine J_cmp S_X8_rangeAnswer rfl (fun c5 => ?_) (fun c5 => ?_)
  · refine J_C S_X8_rangeAnswer rfl ?_
    refine J_ist S_X8_rangeAnswer rfl rfl ?_
    refine J_ald S_X8_rangeAnswer rfl rfl ?_
    refine J_getI S_X8_rangeAnswer rfl (by assumption) (by omega) ?_
    rw [g2]
    refine J_ist S_X8_rangeAnswer rfl rfl ?_
    have h := loop (g + 1 - f) 0 none (by omega)
    rw [rgA, if_neg c5] at h
    exact h
  · refine J_C S_X8_rangeAnswer rfl ?_
    refine J_goto S_X8_rangeAnswer rfl ?_
    refine J_ist S_X8_rangeAnswer rfl rfl ?_
    refine J_ald S_X8_rangeAnswer rfl rfl ?_
    refine J_getI S_X8_rangeAnswer rfl (by assumption) (by omega) ?_
    rw [g2]
    refine J_ist S_X8_rangeAnswer rfl rfl ?_
    have h := loop (g + 1 - f) 0 none (by omega)
    rw [rgA, if_pos c5] at h
    exact h
theorem C_X4_askTables (hB : mj_isB b) (hR : RB I b v) (hI : IV v) (hT : tvo (I 296)) (hb9 : b + 15 ≤ 294 ∨ 298 ≤ b) : mj_R D_X4_askTables [.inr (some 294), .inr (some b)] (mj_w I) (mj_px (fun r I' => r = none ∧ (∀ o, o ≠ 297 → I' o = I o) ∧ ∀ k, k < 8 → vk v k 4 = 1 → I' 297 k = aT v (I 296) k)) := by
  have m4 := s_294
  have m7 := s_297
  have hB' := hB
  obtain ⟨h0, h1, h2, h3, h4, h5, h6, hv, hb⟩ := hB
  refine mj_enter (by decide +kernel) (Nat.le_of_ble_eq_true rfl) ?_
  have key : ∀ (r i : Nat) (I' : mj_I) (q3 : Option mj_V), i + r = 8 → (∀ o, o ≠ 297 → I' o = I o) → (∀ k, k < i → vk v k 4 = 1 → I' 297 k = aT v (I 296) k) → mj_J D_X4_askTables (mj_px (fun r I' => r = none ∧ (∀ o, o ≠ 297 → I' o = I o) ∧ ∀ k, k < 8 → vk v k 4 = 1 → I' 297 k = aT v (I 296) k)) 2 [some (.inr (some 294)), some (.inr (some b)), some (.inl (nI i)), q3] [] (mj_w I') (0, 0) := by
    intro r
    induction r with
    | zero =>
      intro i I' q3 hi hF hA
      obtain rfl : i = 8 := by omega
      refine J_ild S_X4_askTables rfl rfl ?_
      refine J_ald S_X4_askTables rfl rfl ?_
      refine J_getR S_X4_askTables rfl (o' := 297) (by assumption) (by omega) rfl ?_
      refine J_len S_X4_askTables rfl (by assumption) (by omega) (by decide) ?_
      refine J_cmp S_X4_askTables rfl (fun c8 => ?_) (fun c8 => False.elim (c8 (by decide)))
      refine J_retV S_X4_askTables rfl ?_
      exact ⟨I', rfl, rfl, hF, hA⟩
    | succ r ih =>
      intro i I' q3 hi hF hA
      have hi8 : i < 8 := by omega
      have hR' : RB I' b v := by
        obtain ⟨a1, a2, a3, a4, a5⟩ := hR
        exact ⟨by rw [hF _ (by omega)]; exact a1, fun q hq => by rw [hF _ (by omega)]; exact a2 q hq, fun q hq => by rw [hF _ (by omega)]; exact a3 q hq, fun j hj => by rw [hF _ (by omega), hF _ (by omega)]; exact a4 j hj, fun q hq => by rw [hF _ (by omega)]; exact a5 q hq⟩
      have e296 : I' 296 = I 296 := hF 296 (by decide)
      rcases hI.b01 hi8 with he | he
      · have hA0 : ∀ k, k < i + 1 → vk v k 4 = 1 → I' 297 k = aT v (I 296) k := by
          intro k hk hk4
          refine hA k ?_ hk4
          rcases Nat.lt_or_ge k i with g | g
          · exact g
          · rw [show k = i by omega, he] at hk4
            exact absurd hk4 (by decide)
        refine J_ild S_X4_askTables rfl rfl ?_
        refine J_ald S_X4_askTables rfl rfl ?_
        refine J_getR S_X4_askTables rfl (o' := 297) (by assumption) (by omega) rfl ?_
        refine J_len S_X4_askTables rfl (by assumption) (by omega) (by decide) ?_
        refine J_cmp S_X4_askTables rfl (fun c8 => False.elim (nI_ge (b := 8) hi8 (by decide) c8)) (fun c8 => ?_)
        refine J_ald S_X4_askTables rfl rfl ?_
        refine J_ild S_X4_askTables rfl rfl ?_
        refine J_CVx S_X4_askTables rfl rfl (by assumption) (by omega) (by simp) (C_X0_find_n hB' hR' hI hi8 he) rfl ?_
        refine J_ast S_X4_askTables rfl rfl ?_
        refine J_ald S_X4_askTables rfl rfl ?_
        refine J_nuN S_X4_askTables rfl ?_
        refine J_inc S_X4_askTables rfl rfl rfl ?_
        refine J_goto S_X4_askTables rfl ?_
        rw [← nI_succ]
        exact ih (i + 1) I' _ (by omega) hF hA0
      · have hvk := hv i hi8
        obtain ⟨r1, -⟩ := (hR'.2.2.2.2 i hi8).2.2 he
        have nx : ∀ x q3, x = aT v (I 296) i → mj_J D_X4_askTables (mj_px (fun r I' => r = none ∧ (∀ o, o ≠ 297 → I' o = I o) ∧ ∀ k, k < 8 → vk v k 4 = 1 → I' 297 k = aT v (I 296) k)) 2 [some (.inr (some 294)), some (.inr (some b)), some (.inl (nI i + 1)), q3] [] (mj_w (mj_up I' 297 i x)) (0, 0) := by
          intro x q3 hx
          rw [← nI_succ]
          refine ih (i + 1) _ q3 (by omega) (fun o ho => by rw [mj_up_ne ho]; exact hF o ho) (fun k hk hk4 => ?_)
          rw [mj_up_eq]
          by_cases hki : k = i
          · subst hki; rw [up_s, hx]
          · rw [up_n hki]; exact hA k (by omega) hk4
        obtain ⟨w4, w0, w1, wt, w2, w3, wp, wr, wx, -⟩ := hI.wv hi8 he
        have ea := aT_eq (T := I 296) hI hi8 he
        by_cases hk4 : vk v i 0 = 4
        · obtain ⟨ha, hbq⟩ := wp hk4
          obtain ⟨x1, x2⟩ := wx he hk4
          rw [qa, if_pos hk4, ← hA _ ha x1, ← hA _ hbq x2] at ea
          refine J_ild S_X4_askTables rfl rfl ?_
          refine J_ald S_X4_askTables rfl rfl ?_
          refine J_getR S_X4_askTables rfl (o' := 297) (by assumption) (by omega) rfl ?_
          refine J_len S_X4_askTables rfl (by assumption) (by omega) (by decide) ?_
          refine J_cmp S_X4_askTables rfl (fun c8 => False.elim (nI_ge (b := 8) hi8 (by decide) c8)) (fun c8 => ?_)
          refine J_ald S_X4_askTables rfl rfl ?_
          refine J_ild S_X4_askTables rfl rfl ?_
          refine J_CVx S_X4_askTables rfl rfl (by assumption) (by omega) (by simp) (C_X0_find_y hB' hR' hI hi8 he) rfl ?_
          refine J_ast S_X4_askTables rfl rfl ?_
          refine J_ald S_X4_askTables rfl rfl ?_
          refine J_nuS S_X4_askTables rfl ?_
          refine J_ald S_X4_askTables rfl rfl ?_
          refine J_getR S_X4_askTables rfl (o' := 297) (by assumption) (by omega) rfl ?_
          refine J_ild S_X4_askTables rfl rfl ?_
          refine J_ald S_X4_askTables rfl rfl ?_
          refine J_getI S_X4_askTables rfl (by assumption) (by omega) ?_
          rw [r1]
          refine J_C S_X4_askTables rfl ?_
          refine J_cmp S_X4_askTables rfl (fun c31 => False.elim (c31 hk4)) (fun c31 => ?_)
          refine J_ald S_X4_askTables rfl rfl ?_
          refine J_ald S_X4_askTables rfl rfl ?_
          refine J_CVx S_X4_askTables rfl rfl (by assumption) (by omega) (by simp) (C_X4_difference hB' hR' hI hi8 he hk4) rfl ?_
          refine J_goto S_X4_askTables rfl ?_
          refine J_iast S_X4_askTables rfl (by assumption) (by omega) rfl (by omega) (by decide) ?_
          refine J_inc S_X4_askTables rfl rfl rfl ?_
          refine J_goto S_X4_askTables rfl ?_
          exact nx _ _ ea.symm
        · have hra := C_X8_rangeAnswer hB' hR' hI (by rw [e296]; exact hT) hi8 he hk4
          have ea2 : qa v (I' 296) (I' 297) i = aT v (I 296) i := by rw [ea, e296, qa, qa, if_neg hk4, if_neg hk4]
          rw [ea2] at hra
          refine J_ild S_X4_askTables rfl rfl ?_
          refine J_ald S_X4_askTables rfl rfl ?_
          refine J_getR S_X4_askTables rfl (o' := 297) (by assumption) (by omega) rfl ?_
          refine J_len S_X4_askTables rfl (by assumption) (by omega) (by decide) ?_
          refine J_cmp S_X4_askTables rfl (fun c8 => False.elim (nI_ge (b := 8) hi8 (by decide) c8)) (fun c8 => ?_)
          refine J_ald S_X4_askTables rfl rfl ?_
          refine J_ild S_X4_askTables rfl rfl ?_
          refine J_CVx S_X4_askTables rfl rfl (by assumption) (by omega) (by simp) (C_X0_find_y hB' hR' hI hi8 he) rfl ?_
          refine J_ast S_X4_askTables rfl rfl ?_
          refine J_ald S_X4_askTables rfl rfl ?_
          refine J_nuS S_X4_askTables rfl ?_
          refine J_ald S_X4_askTables rfl rfl ?_
          refine J_getR S_X4_askTables rfl (o' := 297) (by assumption) (by omega) rfl ?_
          refine J_ild S_X4_askTables rfl rfl ?_
          refine J_ald S_X4_askTables rfl rfl ?_
          refine J_getI S_X4_askTables rfl (by assumption) (by omega) ?_
          rw [r1]
          refine J_C S_X4_askTables rfl ?_
          refine J_cmp S_X4_askTables rfl (fun c31 => ?_) (fun c31 => False.elim (hk4 c31))
          refine J_ald S_X4_askTables rfl rfl ?_
          refine J_ald S_X4_askTables rfl rfl ?_
          refine J_getR S_X4_askTables rfl (o' := 295) (by assumption) (by omega) rfl ?_
          refine J_CVx S_X4_askTables rfl rfl (by assumption) (by omega) (by simp) (hra) rfl ?_
          refine J_iast S_X4_askTables rfl (by assumption) (by omega) rfl (by omega) (by decide) ?_
          refine J_inc S_X4_askTables rfl rfl rfl ?_
          refine J_goto S_X4_askTables rfl ?_
          exact nx _ _ rfl
  refine J_C S_X4_askTables rfl ?_
  refine J_ist S_X4_askTables rfl rfl ?_
  exact key 8 0 I none rfl (fun _ _ => rfl) (fun k h => absurd h (Nat.not_lt_zero k))
end Rp
