theorem RB_fr {I I' : mj_I} {b : Nat} {v : mv} (h : ∀ o, b ≤ o → o < b + 15 → I' o = I o) (hR : RB I b v) : RB I' b v := by
  obtain ⟨a1, a2, a3, a4, a5⟩ := hR
  exact ⟨by rw [h _ (by omega) (by omega)]; exact a1, fun q hq => by rw [h _ (by omega) (by omega)]; exact a2 q hq, fun q hq => by rw [h _ (by omega) (by omega)]; exact a3 q hq, fun j hj => by rw [h _ (by omega) (by omega), h _ (by omega) (by omega)]; exact a4 j hj, fun q hq => by rw [h _ (by omega) (by omega)]; exact a5 q hq⟩
theorem aq_aT {v : mv} {n : Nat} : aq v n = aT v (fun c => tabv v c n) := rfl
theorem rgA_ext {kd : Int32} {T T' : Nat → Int32} {t a : Nat} : ∀ n, (∀ i, i < n → T (12 * t + (a + i)) = T' (12 * t + (a + i)) ∧ T (12 + (a + i)) = T' (12 + (a + i))) → rgA kd T t a n = rgA kd T' t a n
  | 0, _ => rfl
  | n + 1, h => by rw [rgA, rgA, rgA_ext n (fun i hi => h i (by omega)), (h n (by omega)).1, (h n (by omega)).2]
theorem aT_ext {v : mv} {T T' : Nat → Int32} (hI : IV v) (h : ∀ c, c < 24 → T c = T' c) : ∀ {k : Nat}, k < 8 → vk v k 4 = 1 → aT v T k = aT v T' k := by
  intro k
  induction k using Nat.strongRecOn with
  | ind k ih =>
    intro hk he
    obtain ⟨w4, w0, w1, wt, w2, w3, wp, wr, wx, -⟩ := hI.wv hk he
    rw [aT_eq hI hk he, aT_eq hI hk he]
    unfold qa
    by_cases h4 : vk v k 0 = 4
    · obtain ⟨ha, hb⟩ := wp h4
      obtain ⟨x1, x2⟩ := wx he h4
      rw [if_pos h4, if_pos h4, ih _ ha (by omega) x1, ih _ hb (by omega) x2]
    · rw [if_neg h4, if_neg h4]
      have hfl := wr h4
      have b1 := w1.2
      have b3 := w3.2
      exact rgA_ext _ (fun i hi => ⟨h _ (by omega), h _ (by omega)⟩)
section Rq
variable {I : mj_I} {b : Nat} {v : mv}
theorem tvo_tab (hI : IV v) {n : Nat} (hn : n ≤ tn (v 0)) : tvo (fun c => tabv v c n) := fun c _ => tabv_ok hI c n hn
theorem tvo_ly (hI : IV v) {n : Nat} (hn : n ≤ tn (v 0)) : tvo (ly v I 296 n 296) := fun c hc => by rw [ly_at hc]; exact tabv_ok hI c n hn
theorem aT_ly (hI : IV v) {n k : Nat} (hk : k < 8) (he : vk v k 4 = 1) : aT v (ly v I 296 n 296) k = aq v n k := by
  rw [aq_aT]
  exact aT_ext hI (fun c hc => ly_at hc n) hk he
theorem C_X4_answerByTables (hB : mj_isB b) (hR : RB I b v) (hI : IV v) (hb9 : b + 15 ≤ 294 ∨ 298 ≤ b) {k n : Nat} (hk : k < 8) (he : vk v k 4 = 1) (hn : n ≤ tn (v 0)) : mj_R D_X4_answerByTables [.inr (some 294), .inr (some b), .inl (nI k), .inl (nI n)] (mj_w I) (mj_px (fun r I' => r = some (.inl (aq v n k)) ∧ ∀ o, o ≠ 296 → o ≠ 297 → I' o = I o)) := by
  have m4 := s_294
  have m5 := s_295
  have m6 := s_296
  have hl := hI.1.2
  have hB' := hB
  obtain ⟨h0, h1, h2, h3, h4, h5, h6, hv, hb⟩ := hB
  refine mj_enter (by decide +kernel) (Nat.le_of_ble_eq_true rfl) ?_
  have key : ∀ (r i : Nat), i + r = n → mj_J D_X4_answerByTables (mj_px (fun r I' => r = some (.inl (aq v n k)) ∧ ∀ o, o ≠ 296 → o ≠ 297 → I' o = I o)) 10 [some (.inr (some 294)), some (.inr (some b)), some (.inl (nI k)), some (.inl (nI n)), some (.inl (nI i))] [] (mj_w (ly v I 296 i)) (0, 0) := by
    intro r
    induction r with
    | zero =>
      intro i hi
      obtain rfl : i = n := by omega
      have hR1 : RB (ly v I 296 i) b v := RB_fr (fun o h1 h2 => ly_ne (by omega) i) hR
      refine J_ild S_X4_answerByTables rfl rfl ?_
      refine J_ild S_X4_answerByTables rfl rfl ?_
      refine J_cmp S_X4_answerByTables rfl (fun c13 => ?_) (fun c13 => False.elim (c13 (nI_le (Nat.le_refl _) (by omega))))
      refine J_ald S_X4_answerByTables rfl rfl ?_
      refine J_ald S_X4_answerByTables rfl rfl ?_
      refine J_CV S_X4_answerByTables rfl rfl (by assumption) (by omega) (by simp) (C_X4_askTables hB' hR1 hI (tvo_ly hI hn) hb9) ?_
      rintro _ _ ⟨I2, rfl, rfl, hF, hA⟩
      refine J_ald S_X4_answerByTables rfl rfl ?_
      refine J_ild S_X4_answerByTables rfl rfl ?_
      refine J_CVx S_X4_answerByTables rfl rfl (by assumption) (by omega) (by simp) (C_X4_answer (I := I2) hk) rfl ?_
      refine J_retI S_X4_answerByTables rfl ?_
      refine ⟨I2, rfl, ?_, fun o g1 g2 => by rw [hF o g2, ly_ne g1]⟩; rw [hA k hk he, aT_ly hI hk he]
    | succ r ih =>
      intro i hi
      have hR1 : RB (ly v I 296 i) b v := RB_fr (fun o h1 h2 => ly_ne (by omega) i) hR
      have hi200 : i < 200 := by omega
      have hcl := hI.cl_lt (show i < tn (v 0) by omega)
      have hce := hR1.2.2.2.1 i (by omega)
      refine J_ild S_X4_answerByTables rfl rfl ?_
      refine J_ild S_X4_answerByTables rfl rfl ?_
      refine J_cmp S_X4_answerByTables rfl (fun c13 => False.elim (nI_ge (by omega) (by omega) c13)) (fun c13 => ?_)
      refine J_ald S_X4_answerByTables rfl rfl ?_
      refine J_getR S_X4_answerByTables rfl (o' := 295) (by assumption) (by omega) rfl ?_
      refine J_ald S_X4_answerByTables rfl rfl ?_
      refine J_getR S_X4_answerByTables rfl (by assumption) (by omega) rfl ?_
      refine J_ild S_X4_answerByTables rfl rfl ?_
      refine J_CVx S_X4_answerByTables rfl rfl (by assumption) (by omega) (by simp) (C_X2_cell hB' hi200) rfl ?_
      refine J_ald S_X4_answerByTables rfl rfl ?_
      refine J_getR S_X4_answerByTables rfl (by assumption) (by omega) rfl ?_
      refine J_ild S_X4_answerByTables rfl rfl ?_
      refine J_CVx S_X4_answerByTables rfl rfl (by assumption) (by omega) (by simp) (C_X2_newValue hB' hi200) rfl ?_
      rw [hce.1, hce.2]
      refine J_CVx S_X4_answerByTables rfl rfl (by assumption) (by omega) (by simp) (C_X6_assign m5 m6 (by decide) hcl) rfl ?_
      refine J_inc S_X4_answerByTables rfl rfl rfl ?_
      refine J_goto S_X4_answerByTables rfl ?_
      rw [← nI_succ]
      exact ih (i + 1) (by omega)
  refine J_ald S_X4_answerByTables rfl rfl ?_
  refine J_getR S_X4_answerByTables rfl (o' := 295) (by assumption) (by omega) rfl ?_
  refine J_CVx S_X4_answerByTables rfl rfl (by assumption) (by omega) (by simp) (C_X6_empty (I := I) m5 m6 (by decide)) rfl ?_
  refine J_C S_X4_answerByTables rfl ?_
  refine J_ist S_X4_answerByTables rfl rfl ?_
  exact key n 0 (by omega)
theorem C_X4_begin (hB : mj_isB b) (hR : RB I b v) (hI : IV v) (hb9 : b + 15 ≤ 294 ∨ 298 ≤ b) : mj_R D_X4_begin [.inr (some 294), .inr (some b)] (mj_w I) (mj_px (fun r I' => r = none ∧ (∀ o, o ≠ 296 → o ≠ 297 → I' o = I o) ∧ (∀ c, c < 24 → I' 296 c = tabv v c 0) ∧ ∀ k, k < 8 → vk v k 4 = 1 → I' 297 k = aq v 0 k)) := by
  have m4 := s_294
  have m5 := s_295
  have m6 := s_296
  have hB' := hB
  obtain ⟨h0, h1, h2, h3, h4, h5, h6, hv, hb⟩ := hB
  have hR1 : RB (tb_e I 296 24) b v := RB_fr (fun o h1 h2 => tb_e_ne (by omega) 24) hR
  have hT : tvo (tb_e I 296 24 296) := tvo_ly (I := I) hI (Nat.zero_le _)
  refine mj_enter (by decide +kernel) (Nat.le_of_ble_eq_true rfl) ?_
  refine J_ald S_X4_begin rfl rfl ?_
  refine J_getR S_X4_begin rfl (o' := 295) (by assumption) (by omega) rfl ?_
  refine J_CVx S_X4_begin rfl rfl (by assumption) (by omega) (by simp) (C_X6_empty (I := I) m5 m6 (by decide)) rfl ?_
  refine J_ald S_X4_begin rfl rfl ?_
  refine J_ald S_X4_begin rfl rfl ?_
  refine J_CV S_X4_begin rfl rfl (by assumption) (by omega) (by simp) (C_X4_askTables hB' hR1 hI hT hb9) ?_
  rintro _ _ ⟨I2, rfl, rfl, hF, hA⟩
  refine J_retV S_X4_begin rfl ?_
  exact ⟨I2, rfl, rfl, fun o g1 g2 => by rw [hF o g2, tb_e_ne g1], fun c hc => by rw [hF 296 (by decide), tb_e_at 24 hc]; rfl, fun k hk he => (hA k hk he).trans (aT_ly (I := I) (n := 0) hI hk he)⟩
end Rq
