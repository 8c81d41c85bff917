section Sp
variable {I : mj_I} {b : Nat} {v : mv}
theorem C_X8_revisedAnswer (hB : mj_isB b) (hR : RB I b v) (hI : IV v) (hT : tvo (I 296)) {k c : Nat} (hk : k < 8) (he : vk v k 4 = 1) (h4 : ¬ vk v k 0 = 4) (hc : c < 24) {ans before : Int32} : mj_R D_X8_revisedAnswer [.inr (some (b + 7 + k)), .inl ans, .inl (nI c), .inl before, .inr (some 295)] (mj_w I)
    (mj_ex (some (.inl (rvA (vk v k 0) ans before (I 296 c) (I 296 (if c < 12 then c + 12 else c - 12)) (qa v (I 296) (I 297) k)))) I) := by
  have m5 := s_295
  have m6 := s_296
  obtain ⟨r1, r2, r3, r4, -⟩ := (hR.2.2.2.2 k hk).2.2 he
  have hra := C_X8_rangeAnswer hB hR hI hT hk he h4
  obtain ⟨h0, h1, h2, h3, h4', h5, h6, hv, hb⟩ := hB
  have hvk := hv k hk
  have hat := C_X6_at (I := I) m5 m6 (by decide) hc
  refine mj_enter (by decide +kernel) (Nat.le_of_ble_eq_true rfl) ?_
  by_cases hlo : c < 12
  · have hat2 := C_X6_at (I := I) m5 m6 (by decide) (show c + 12 < 24 by omega)
    have e12 : nI c + 12 = nI (c + 12) := by rw [← nI_add]; rfl
    refine J_ald S_X8_revisedAnswer rfl rfl ?_
    refine J_ild S_X8_revisedAnswer rfl rfl ?_
    refine J_CVx S_X8_revisedAnswer rfl rfl (by assumption) (by omega) (by simp) (hat) rfl ?_
    refine J_ist S_X8_revisedAnswer rfl rfl ?_
    refine J_ild S_X8_revisedAnswer rfl rfl ?_
    refine J_CSx S_X8_revisedAnswer rfl rfl (by simp) (C_X9_amount) rfl ?_
    refine J_ild S_X8_revisedAnswer rfl rfl ?_
    refine J_CSx S_X8_revisedAnswer rfl rfl (by simp) (C_X9_amount) rfl ?_
    refine J_bin S_X8_revisedAnswer rfl ?_
    refine J_ist S_X8_revisedAnswer rfl rfl ?_
    refine J_ald S_X8_revisedAnswer rfl rfl ?_
    refine J_getI S_X8_revisedAnswer rfl (by assumption) (by omega) ?_
    rw [r1]
    refine J_sw S_X8_revisedAnswer rfl ⟨fun w0 => ?_, fun n0 => ⟨fun w1 => ?_, fun n1 => ⟨fun w2 => ?_, fun n2 => ?_⟩⟩⟩
    · refine J_ild S_X8_revisedAnswer rfl rfl ?_
      refine J_ild S_X8_revisedAnswer rfl rfl ?_
      refine J_bin S_X8_revisedAnswer rfl ?_
      refine J_retI S_X8_revisedAnswer rfl ?_
      rw [rvA, if_pos w0]; exact ⟨rfl, rfl⟩
    · refine J_ild S_X8_revisedAnswer rfl rfl ?_
      refine J_ild S_X8_revisedAnswer rfl rfl ?_
      refine J_CSx S_X8_revisedAnswer rfl rfl (by simp) (C_X9_presence) rfl ?_
      refine J_bin S_X8_revisedAnswer rfl ?_
      refine J_ild S_X8_revisedAnswer rfl rfl ?_
      refine J_CSx S_X8_revisedAnswer rfl rfl (by simp) (C_X9_presence) rfl ?_
      refine J_bin S_X8_revisedAnswer rfl ?_
      refine J_retI S_X8_revisedAnswer rfl ?_
      rw [rvA, if_neg n0, if_pos w1]; exact ⟨rfl, rfl⟩
    · refine J_ild S_X8_revisedAnswer rfl rfl ?_
      refine J_ild S_X8_revisedAnswer rfl rfl ?_
      refine J_cmp S_X8_revisedAnswer rfl (fun c73 => ?_) (fun c73 => ?_)
      · refine J_ild S_X8_revisedAnswer rfl rfl ?_
        refine J_ild S_X8_revisedAnswer rfl rfl ?_
        refine J_cmp S_X8_revisedAnswer rfl (fun c81 => ?_) (fun c81 => ?_)
        · refine J_ild S_X8_revisedAnswer rfl rfl ?_
          refine J_retI S_X8_revisedAnswer rfl ?_
          rw [rvA, if_neg n0, if_neg n1, if_pos w2, if_pos c73, if_neg c81]; exact ⟨rfl, rfl⟩
        · refine J_ald S_X8_revisedAnswer rfl rfl ?_
          refine J_ald S_X8_revisedAnswer rfl rfl ?_
          refine J_CVx S_X8_revisedAnswer rfl rfl (by assumption) (by omega) (by simp) (hra) rfl ?_
          refine J_goto S_X8_revisedAnswer rfl ?_
          refine J_retI S_X8_revisedAnswer rfl ?_
          rw [rvA, if_neg n0, if_neg n1, if_pos w2, if_pos c73, if_pos c81]; exact ⟨rfl, rfl⟩
      · refine J_ild S_X8_revisedAnswer rfl rfl ?_
        refine J_retI S_X8_revisedAnswer rfl ?_
        rw [rvA, if_neg n0, if_neg n1, if_pos w2, if_neg c73]; exact ⟨rfl, rfl⟩
    · refine J_ild S_X8_revisedAnswer rfl rfl ?_
      refine J_C S_X8_revisedAnswer rfl ?_
      refine J_cmp S_X8_revisedAnswer rfl (fun c98 => False.elim (nI_ge (b := 12) hlo (by decide) c98)) (fun c98 => ?_)
      refine J_ild S_X8_revisedAnswer rfl rfl ?_
      refine J_C S_X8_revisedAnswer rfl ?_
      refine J_bin S_X8_revisedAnswer rfl ?_
      rw [e12]
      refine J_goto S_X8_revisedAnswer rfl ?_
      refine J_ist S_X8_revisedAnswer rfl rfl ?_
      refine J_ild S_X8_revisedAnswer rfl rfl ?_
      refine J_ild S_X8_revisedAnswer rfl rfl ?_
      refine J_ald S_X8_revisedAnswer rfl rfl ?_
      refine J_ild S_X8_revisedAnswer rfl rfl ?_
      refine J_CVx S_X8_revisedAnswer rfl rfl (by assumption) (by omega) (by simp) (hat2) rfl ?_
      refine J_CSx S_X8_revisedAnswer rfl rfl (by simp) (C_X9_amount) rfl ?_
      refine J_bin S_X8_revisedAnswer rfl ?_
      refine J_bin S_X8_revisedAnswer rfl ?_
      refine J_retI S_X8_revisedAnswer rfl ?_
      rw [rvA, if_neg n0, if_neg n1, if_neg n2, if_pos hlo]; exact ⟨rfl, rfl⟩
  · have hat2 := C_X6_at (I := I) m5 m6 (by decide) (show c - 12 < 24 by omega)
    have e12 : nI c - 12 = nI (c - 12) := pk_sub (b := 12) (by omega)
    refine J_ald S_X8_revisedAnswer rfl rfl ?_
    refine J_ild S_X8_revisedAnswer rfl rfl ?_
    refine J_CVx S_X8_revisedAnswer rfl rfl (by assumption) (by omega) (by simp) (hat) rfl ?_
    refine J_ist S_X8_revisedAnswer rfl rfl ?_
    refine J_ild S_X8_revisedAnswer rfl rfl ?_
    refine J_CSx S_X8_revisedAnswer rfl rfl (by simp) (C_X9_amount) rfl ?_
    refine J_ild S_X8_revisedAnswer rfl rfl ?_
    refine J_CSx S_X8_revisedAnswer rfl rfl (by simp) (C_X9_amount) rfl ?_
    refine J_bin S_X8_revisedAnswer rfl ?_
    refine J_ist S_X8_revisedAnswer rfl rfl ?_
    refine J_ald S_X8_revisedAnswer rfl rfl ?_
    refine J_getI S_X8_revisedAnswer rfl (by assumption) (by omega) ?_
    rw [r1]
    refine J_sw S_X8_revisedAnswer rfl ⟨fun w0 => ?_, fun n0 => ⟨fun w1 => ?_, fun n1 => ⟨fun w2 => ?_, fun n2 => ?_⟩⟩⟩
    · refine J_ild S_X8_revisedAnswer rfl rfl ?_
      refine J_ild S_X8_revisedAnswer rfl rfl ?_
      refine J_bin S_X8_revisedAnswer rfl ?_
      refine J_retI S_X8_revisedAnswer rfl ?_
      rw [rvA, if_pos w0]; exact ⟨rfl, rfl⟩
    · refine J_ild S_X8_revisedAnswer rfl rfl ?_
      refine J_ild S_X8_revisedAnswer rfl rfl ?_
      refine J_CSx S_X8_revisedAnswer rfl rfl (by simp) (C_X9_presence) rfl ?_
      refine J_bin S_X8_revisedAnswer rfl ?_
      refine J_ild S_X8_revisedAnswer rfl rfl ?_
      refine J_CSx S_X8_revisedAnswer rfl rfl (by simp) (C_X9_presence) rfl ?_
      refine J_bin S_X8_revisedAnswer rfl ?_
      refine J_retI S_X8_revisedAnswer rfl ?_
      rw [rvA, if_neg n0, if_pos w1]; exact ⟨rfl, rfl⟩
    · refine J_ild S_X8_revisedAnswer rfl rfl ?_
      refine J_ild S_X8_revisedAnswer rfl rfl ?_
      refine J_cmp S_X8_revisedAnswer rfl (fun c73 => ?_) (fun c73 => ?_)
      · refine J_ild S_X8_revisedAnswer rfl rfl ?_
        refine J_ild S_X8_revisedAnswer rfl rfl ?_
        refine J_cmp S_X8_revisedAnswer rfl (fun c81 => ?_) (fun c81 => ?_)
        · refine J_ild S_X8_revisedAnswer rfl rfl ?_
          refine J_retI S_X8_revisedAnswer rfl ?_
          rw [rvA, if_neg n0, if_neg n1, if_pos w2, if_pos c73, if_neg c81]; exact ⟨rfl, rfl⟩
        · refine J_ald S_X8_revisedAnswer rfl rfl ?_
          refine J_ald S_X8_revisedAnswer rfl rfl ?_
          refine J_CVx S_X8_revisedAnswer rfl rfl (by assumption) (by omega) (by simp) (hra) rfl ?_
          refine J_goto S_X8_revisedAnswer rfl ?_
          refine J_retI S_X8_revisedAnswer rfl ?_
          rw [rvA, if_neg n0, if_neg n1, if_pos w2, if_pos c73, if_pos c81]; exact ⟨rfl, rfl⟩
      · refine J_ild S_X8_revisedAnswer rfl rfl ?_
        refine J_retI S_X8_revisedAnswer rfl ?_
        rw [rvA, if_neg n0, if_neg n1, if_pos w2, if_neg c73]; exact ⟨rfl, rfl⟩
    · refine J_ild S_X8_revisedAnswer rfl rfl ?_
      refine J_C S_X8_revisedAnswer rfl ?_
      refine J_cmp S_X8_revisedAnswer rfl (fun c98 => ?_) (fun c98 => False.elim (c98 (nI_le (a := 12) (by omega) (by omega))))
      refine J_ild S_X8_revisedAnswer rfl rfl ?_
      refine J_C S_X8_revisedAnswer rfl ?_
      refine J_bin S_X8_revisedAnswer rfl ?_
      rw [e12]
      refine J_ist S_X8_revisedAnswer rfl rfl ?_
      refine J_ild S_X8_revisedAnswer rfl rfl ?_
      refine J_ild S_X8_revisedAnswer rfl rfl ?_
      refine J_ald S_X8_revisedAnswer rfl rfl ?_
      refine J_ild S_X8_revisedAnswer rfl rfl ?_
      refine J_CVx S_X8_revisedAnswer rfl rfl (by assumption) (by omega) (by simp) (hat2) rfl ?_
      refine J_CSx S_X8_revisedAnswer rfl rfl (by simp) (C_X9_amount) rfl ?_
      refine J_bin S_X8_revisedAnswer rfl ?_
      refine J_bin S_X8_revisedAnswer rfl ?_
      refine J_retI S_X8_revisedAnswer rfl ?_
      rw [rvA, if_neg n0, if_neg n1, if_neg n2, if_neg hlo]; exact ⟨rfl, rfl⟩
/-- the replay stands at place n -/
def RA (I : mj_I) (v : mv) (n : Nat) : Prop := (∀ c, c < 24 → I 296 c = tabv v c n) ∧ ∀ k, k < 8 → vk v k 4 = 1 → I 297 k = aq v n k
theorem k_0123 {x : Int32} (h : rg x 4) (h4 : ¬ x = 4) : x = 0 ∨ x = 1 ∨ x = 2 ∨ x = 3 := by
  have e1 := h.1
  have e2 := h.2
  generalize tn x = q at e1 e2
  subst e1
  have : q = 0 ∨ q = 1 ∨ q = 2 ∨ q = 3 ∨ q = 4 := by omega
  rcases this with rfl | rfl | rfl | rfl | rfl
  · exact Or.inl rfl
  · exact Or.inr (Or.inl rfl)
  · exact Or.inr (Or.inr (Or.inl rfl))
  · exact Or.inr (Or.inr (Or.inr rfl))
  · exact absurd rfl h4
theorem C_X4_step (hB : mj_isB b) (hR : RB I b v) (hI : IV v) (hb9 : b + 15 ≤ 294 ∨ 298 ≤ b) {n : Nat} (hn : n < tn (v 0)) (hA : RA I v n) : mj_R D_X4_step [.inr (some 294), .inr (some b), .inl (nI n)] (mj_w I) (mj_px (fun r I' => r = none ∧ (∀ o, o ≠ 296 → o ≠ 297 → I' o = I o) ∧ RA I' v (n + 1))) := by
  have m4 := s_294
  have m5 := s_295
  have m6 := s_296
  have m7 := s_297
  have hl := hI.1.2
  have hB' := hB
  obtain ⟨h0, h1, h2, h3, h4, h5, h6, hv, hb⟩ := hB
  have hcl := hI.cl_lt hn
  have hn200 : n < 200 := by omega
  obtain ⟨e1, e2⟩ := hR.2.2.2.1 n hn
  have hat := C_X6_at (I := I) m5 m6 (by decide) hcl
  rw [hA.1 _ hcl] at hat
  refine mj_enter (by decide +kernel) (Nat.le_of_ble_eq_true rfl) ?_
  generalize hc : cl v n = c at *
  have hT0 := tvo_tab (v := v) hI (n := n) (by omega)
  have hT1 := tvo_tab (v := v) hI (n := n + 1) (by omega)
  have hu : ∀ i, i ≠ c → tabv v i (n + 1) = tabv v i n := fun i hi => by rw [tabv, if_neg (fun h => hi (h.symm.trans hc))]
  have hx : tabv v c (n + 1) = v (17 + 3 * n) := by rw [tabv, if_pos hc]
  have key : ∀ (r i : Nat) (I' : mj_I) (q6 : Option mj_V), i + r = 8 → (∀ o, o ≠ 296 → o ≠ 297 → I' o = I o) → (∀ c, c < 24 → I' 296 c = tabv v c (n + 1)) → (∀ k, k < 8 → vk v k 4 = 1 → I' 297 k = if k < i then aq v (n + 1) k else aq v n k) → mj_J D_X4_step (mj_px (fun r I' => r = none ∧ (∀ o, o ≠ 296 → o ≠ 297 → I' o = I o) ∧ RA I' v (n + 1))) 38 [some (.inr (some 294)), some (.inr (some b)), some (.inl (nI n)), some (.inl (nI c)), some (.inl (tabv v c n)), some (.inl (nI i)), q6] [] (mj_w I') (0, 0) := by
    intro r
    induction r with
    | zero =>
      intro i I' q6 hi hF hT hK
      obtain rfl : i = 8 := by omega
      refine J_ild S_X4_step rfl rfl ?_
      refine J_ald S_X4_step rfl rfl ?_
      refine J_getR S_X4_step rfl (o' := 297) (by assumption) (by omega) rfl ?_
      refine J_len S_X4_step rfl (by assumption) (by omega) (by decide) ?_
      refine J_cmp S_X4_step rfl (fun c45 => ?_) (fun c45 => False.elim (c45 (by decide)))
      refine J_retV S_X4_step rfl ?_
      exact ⟨I', rfl, rfl, hF, hT, fun k hk he => by rw [hK k hk he, if_pos hk]⟩
    | succ r ih =>
      intro i I' q6 hi hF hT hK
      have hi8 : i < 8 := by omega
      have hR' : RB I' b v := RB_fr (fun o g1 g2 => hF o (by omega) (by omega)) hR
      have hTI : tvo (I' 296) := fun c hc => by rw [hT c hc]; exact tabv_ok hI c (n + 1) (by omega)
      have same : ∀ k, k < 8 → vk v k 4 = 1 → (k = i → aq v (n + 1) k = aq v n k) → I' 297 k = if k < i + 1 then aq v (n + 1) k else aq v n k := by
        intro k hk he hki
        rw [hK k hk he]
        by_cases g : k < i
        · rw [if_pos g, if_pos (by omega)]
        · rw [if_neg g]
          by_cases g2 : k = i
          · rw [if_pos (by omega), hki g2]
          · rw [if_neg (by omega)]
      rcases hI.b01 hi8 with he | he
      · have hs := fun k hk hke => same k hk hke (fun hki => by rw [hki, he] at hke; exact absurd hke (by decide))
        refine J_ild S_X4_step rfl rfl ?_
        refine J_ald S_X4_step rfl rfl ?_
        refine J_getR S_X4_step rfl (o' := 297) (by assumption) (by omega) rfl ?_
        refine J_len S_X4_step rfl (by assumption) (by omega) (by decide) ?_
        refine J_cmp S_X4_step rfl (fun c45 => False.elim (nI_ge (b := 8) hi8 (by decide) c45)) (fun c45 => ?_)
        refine J_ald S_X4_step rfl rfl ?_
        refine J_ild S_X4_step rfl rfl ?_
        refine J_CVx S_X4_step rfl rfl (by assumption) (by omega) (by simp) (C_X0_find_n hB' hR' hI hi8 he) rfl ?_
        refine J_ast S_X4_step rfl rfl ?_
        refine J_ald S_X4_step rfl rfl ?_
        refine J_nuN S_X4_step rfl ?_
        refine J_inc S_X4_step rfl rfl rfl ?_
        refine J_goto S_X4_step rfl ?_
        rw [← nI_succ]
        exact ih (i + 1) I' _ (by omega) hF hT hs
      · have hvk := hv i hi8
        obtain ⟨r1, -⟩ := (hR'.2.2.2.2 i hi8).2.2 he
        obtain ⟨w4, w0, w1, wt, w2, w3, wp, wr, wx, -⟩ := hI.wv hi8 he
        have hcc := C_con hB' hR' hi8 he hcl
        cases hcs : cs v i c
        · rw [hcs] at hcc
          have hs := fun k hk hke => same k hk hke (fun hki => by subst hki; rw [aq_aT, aq_aT]; exact aT_nc hI hu hk hke hcs)
          refine J_ild S_X4_step rfl rfl ?_
          refine J_ald S_X4_step rfl rfl ?_
          refine J_getR S_X4_step rfl (o' := 297) (by assumption) (by omega) rfl ?_
          refine J_len S_X4_step rfl (by assumption) (by omega) (by decide) ?_
          refine J_cmp S_X4_step rfl (fun c45 => False.elim (nI_ge (b := 8) hi8 (by decide) c45)) (fun c45 => ?_)
          refine J_ald S_X4_step rfl rfl ?_
          refine J_ild S_X4_step rfl rfl ?_
          refine J_CVx S_X4_step rfl rfl (by assumption) (by omega) (by simp) (C_X0_find_y hB' hR' hI hi8 he) rfl ?_
          refine J_ast S_X4_step rfl rfl ?_
          refine J_ald S_X4_step rfl rfl ?_
          refine J_nuS S_X4_step rfl ?_
          refine J_ald S_X4_step rfl rfl ?_
          refine J_ild S_X4_step rfl rfl ?_
          refine J_CVx S_X4_step rfl rfl (by assumption) (by omega) (by simp) (hcc) rfl ?_
          refine J_if S_X4_step rfl (fun c67 => ?_) (fun c67 => False.elim (c67 rfl))
          refine J_inc S_X4_step rfl rfl rfl ?_
          refine J_goto S_X4_step rfl ?_
          rw [← nI_succ]
          exact ih (i + 1) I' _ (by omega) hF hT hs
        · rw [hcs] at hcc
          have nx : ∀ x q6, x = aq v (n + 1) i → mj_J D_X4_step (mj_px (fun r I' => r = none ∧ (∀ o, o ≠ 296 → o ≠ 297 → I' o = I o) ∧ RA I' v (n + 1))) 38 [some (.inr (some 294)), some (.inr (some b)), some (.inl (nI n)), some (.inl (nI c)), some (.inl (tabv v c n)), some (.inl (nI i + 1)), q6] [] (mj_w (mj_up I' 297 i x)) (0, 0) := by
            intro x q6 hx
            rw [← nI_succ]
            refine ih (i + 1) _ q6 (by omega) (fun o g1 g2 => by rw [mj_up_ne g2]; exact hF o g1 g2) (fun c hc => by rw [mj_up_ne (by decide)]; exact hT c hc) (fun k hk hke => ?_)
            rw [mj_up_eq]
            by_cases hki : k = i
            · subst hki; rw [up_s, if_pos (by omega), hx]
            · rw [up_n hki, hK k hk hke]
              by_cases g : k < i
              · rw [if_pos g, if_pos (by omega)]
              · rw [if_neg g, if_neg (by omega)]
          have ea := aT_eq (T := fun c => tabv v c (n + 1)) hI hi8 he
          rw [← aq_aT] at ea
          by_cases hk4 : vk v i 0 = 4
          · obtain ⟨ha, hbq⟩ := wp hk4
            obtain ⟨x1, x2⟩ := wx he hk4
            have f1 := hK _ (by omega) x1
            have f2 := hK _ (by omega) x2
            rw [if_pos ha] at f1
            rw [if_pos hbq] at f2
            rw [qa, if_pos hk4, ← f1, ← f2] at ea
            refine J_ild S_X4_step rfl rfl ?_
            refine J_ald S_X4_step rfl rfl ?_
            refine J_getR S_X4_step rfl (o' := 297) (by assumption) (by omega) rfl ?_
            refine J_len S_X4_step rfl (by assumption) (by omega) (by decide) ?_
            refine J_cmp S_X4_step rfl (fun c45 => False.elim (nI_ge (b := 8) hi8 (by decide) c45)) (fun c45 => ?_)
            refine J_ald S_X4_step rfl rfl ?_
            refine J_ild S_X4_step rfl rfl ?_
            refine J_CVx S_X4_step rfl rfl (by assumption) (by omega) (by simp) (C_X0_find_y hB' hR' hI hi8 he) rfl ?_
            refine J_ast S_X4_step rfl rfl ?_
            refine J_ald S_X4_step rfl rfl ?_
            refine J_nuS S_X4_step rfl ?_
            refine J_ald S_X4_step rfl rfl ?_
            refine J_ild S_X4_step rfl rfl ?_
            refine J_CVx S_X4_step rfl rfl (by assumption) (by omega) (by simp) (hcc) rfl ?_
            refine J_if S_X4_step rfl (fun c67 => False.elim (absurd c67 (by decide))) (fun c67 => ?_)
            refine J_ald S_X4_step rfl rfl ?_
            refine J_getR S_X4_step rfl (o' := 297) (by assumption) (by omega) rfl ?_
            refine J_ild S_X4_step rfl rfl ?_
            refine J_ald S_X4_step rfl rfl ?_
            refine J_getI S_X4_step rfl (by assumption) (by omega) ?_
            rw [r1]
            refine J_C S_X4_step rfl ?_
            refine J_cmp S_X4_step rfl (fun c82 => False.elim (c82 hk4)) (fun c82 => ?_)
            refine J_ald S_X4_step rfl rfl ?_
            refine J_ald S_X4_step rfl rfl ?_
            refine J_CVx S_X4_step rfl rfl (by assumption) (by omega) (by simp) (C_X4_difference hB' hR' hI hi8 he hk4) rfl ?_
            refine J_goto S_X4_step rfl ?_
            refine J_iast S_X4_step rfl (by assumption) (by omega) rfl (by omega) (by decide) ?_
            refine J_inc S_X4_step rfl rfl rfl ?_
            refine J_goto S_X4_step rfl ?_
            exact nx _ _ ea.symm
          · have hra := C_X8_revisedAnswer hB' hR' hI hTI hi8 he hk4 hcl (ans := I' 297 i) (before := tabv v c n)
            have f1 := hK i hi8 he
            rw [if_neg (by omega)] at f1
            have hfl := wr hk4
            have b1 := w1.2
            have b3 := w3.2
            have hcs2 := hcs
            rw [cs_eq, if_neg hk4] at hcs2
            simp only [Bool.and_eq_true, Bool.or_eq_true, decide_eq_true_eq] at hcs2
            have eold : aq v n i = rgA (vk v i 0) (fun c => tabv v c n) (tn (vk v i 1)) (tn (vk v i 2)) (tn (vk v i 3) + 1 - tn (vk v i 2)) := by
              have := aT_eq (T := fun c => tabv v c n) hI hi8 he
              rw [← aq_aT, qa, if_neg hk4] at this
              exact this
            have enew : aq v (n + 1) i = rgA (vk v i 0) (fun c => tabv v c (n + 1)) (tn (vk v i 1)) (tn (vk v i 2)) (tn (vk v i 3) + 1 - tn (vk v i 2)) := by rw [ea, qa, if_neg hk4]
            have eqa : qa v (I' 296) (I' 297) i = rgA (vk v i 0) (fun c => tabv v c (n + 1)) (tn (vk v i 1)) (tn (vk v i 2)) (tn (vk v i 3) + 1 - tn (vk v i 2)) := by
              rw [qa, if_neg hk4]
              exact rgA_ext _ (fun q hq => ⟨hT _ (by omega), hT _ (by omega)⟩)
            have hok := rv_ok (kd := vk v i 0) (T := fun c => tabv v c n) (T' := fun c => tabv v c (n + 1)) (t := tn (vk v i 1)) (a := tn (vk v i 2)) (n := tn (vk v i 3) + 1 - tn (vk v i 2)) (c := c) (x := tabv v c (n + 1)) (oc := tabv v (if c < 12 then c + 12 else c - 12) n) hT0 hT1 hu rfl (k_0123 w0 hk4) (fun h => by rw [wt (by rw [h]; decide)]; rfl) (by omega) (by omega) hcl ⟨hcs2.1.1, by omega⟩ hcs2.2 rfl
            have eo : I' 296 (if c < 12 then c + 12 else c - 12) = tabv v (if c < 12 then c + 12 else c - 12) n := by
              rw [hT _ (by split <;> omega)]
              exact hu _ (by split <;> omega)
            rw [hT c hcl, eo, eqa, f1, eold, hok, ← enew] at hra
            refine J_ild S_X4_step rfl rfl ?_
            refine J_ald S_X4_step rfl rfl ?_
            refine J_getR S_X4_step rfl (o' := 297) (by assumption) (by omega) rfl ?_
            refine J_len S_X4_step rfl (by assumption) (by omega) (by decide) ?_
            refine J_cmp S_X4_step rfl (fun c45 => False.elim (nI_ge (b := 8) hi8 (by decide) c45)) (fun c45 => ?_)
            refine J_ald S_X4_step rfl rfl ?_
            refine J_ild S_X4_step rfl rfl ?_
            refine J_CVx S_X4_step rfl rfl (by assumption) (by omega) (by simp) (C_X0_find_y hB' hR' hI hi8 he) rfl ?_
            refine J_ast S_X4_step rfl rfl ?_
            refine J_ald S_X4_step rfl rfl ?_
            refine J_nuS S_X4_step rfl ?_
            refine J_ald S_X4_step rfl rfl ?_
            refine J_ild S_X4_step rfl rfl ?_
            refine J_CVx S_X4_step rfl rfl (by assumption) (by omega) (by simp) (hcc) rfl ?_
            refine J_if S_X4_step rfl (fun c67 => False.elim (absurd c67 (by decide))) (fun c67 => ?_)
            refine J_ald S_X4_step rfl rfl ?_
            refine J_getR S_X4_step rfl (o' := 297) (by assumption) (by omega) rfl ?_
            refine J_ild S_X4_step rfl rfl ?_
            refine J_ald S_X4_step rfl rfl ?_
            refine J_getI S_X4_step rfl (by assumption) (by omega) ?_
            rw [r1]
            refine J_C S_X4_step rfl ?_
            refine J_cmp S_X4_step rfl (fun c82 => ?_) (fun c82 => False.elim (hk4 c82))
            refine J_ald S_X4_step rfl rfl ?_
            refine J_ald S_X4_step rfl rfl ?_
            refine J_getR S_X4_step rfl (o' := 297) (by assumption) (by omega) rfl ?_
            refine J_ild S_X4_step rfl rfl ?_
            refine J_iald S_X4_step rfl (by assumption) (by omega) rfl (by omega) (by decide) ?_
            refine J_ild S_X4_step rfl rfl ?_
            rw [f1, eold]
            refine J_ild S_X4_step rfl rfl ?_
            refine J_ald S_X4_step rfl rfl ?_
            refine J_getR S_X4_step rfl (o' := 295) (by assumption) (by omega) rfl ?_
            refine J_CVx S_X4_step rfl rfl (by assumption) (by omega) (by simp) (hra) rfl ?_
            refine J_iast S_X4_step rfl (by assumption) (by omega) rfl (by omega) (by decide) ?_
            refine J_inc S_X4_step rfl rfl rfl ?_
            refine J_goto S_X4_step rfl ?_
            exact nx _ _ rfl
  refine J_ald S_X4_step rfl rfl ?_
  refine J_getR S_X4_step rfl (by assumption) (by omega) rfl ?_
  refine J_ild S_X4_step rfl rfl ?_
  refine J_CVx S_X4_step rfl rfl (by assumption) (by omega) (by simp) (C_X2_cell hB' hn200) rfl ?_
  rw [e1]
  refine J_ist S_X4_step rfl rfl ?_
  refine J_ald S_X4_step rfl rfl ?_
  refine J_getR S_X4_step rfl (o' := 295) (by assumption) (by omega) rfl ?_
  refine J_ild S_X4_step rfl rfl ?_
  refine J_CVx S_X4_step rfl rfl (by assumption) (by omega) (by simp) (hat) rfl ?_
  refine J_ist S_X4_step rfl rfl ?_
  refine J_ald S_X4_step rfl rfl ?_
  refine J_getR S_X4_step rfl (o' := 295) (by assumption) (by omega) rfl ?_
  refine J_ild S_X4_step rfl rfl ?_
  refine J_ald S_X4_step rfl rfl ?_
  refine J_getR S_X4_step rfl (by assumption) (by omega) rfl ?_
  refine J_ild S_X4_step rfl rfl ?_
  refine J_CVx S_X4_step rfl rfl (by assumption) (by omega) (by simp) (C_X2_newValue hB' hn200) rfl ?_
  rw [e2]
  refine J_CVx S_X4_step rfl rfl (by assumption) (by omega) (by simp) (C_X6_assign m5 m6 (by decide) hcl) rfl ?_
  refine J_C S_X4_step rfl ?_
  refine J_ist S_X4_step rfl rfl ?_
  refine key 8 0 _ none rfl (fun o g1 g2 => mj_up_ne g1) (fun c' hc' => ?_) (fun k hk he => by rw [mj_up_ne (by decide), hA.2 k hk he, if_neg (Nat.not_lt_zero k)])
  rw [mj_up_eq]
  by_cases g : c' = c
  · rw [g, up_s, hx]
  · rw [up_n g, hA.1 c' hc', hu c' g]
theorem C_X4_answerByChanges (hB : mj_isB b) (hR : RB I b v) (hI : IV v) (hb9 : b + 15 ≤ 294 ∨ 298 ≤ b) {k n : Nat} (hk : k < 8) (he : vk v k 4 = 1) (hn : n ≤ tn (v 0)) : mj_R D_X4_answerByChanges [.inr (some 294), .inr (some b), .inl (nI k), .inl (nI n)] (mj_w I) (mj_px (fun r I' => r = some (.inl (aq v n k)) ∧ ∀ o, o ≠ 296 → o ≠ 297 → I' o = I o)) := by
  have m4 := s_294
  have hl := hI.1.2
  have hB' := hB
  obtain ⟨h0, h1, h2, h3, h4, h5, h6, hv, hb⟩ := hB
  refine mj_enter (by decide +kernel) (Nat.le_of_ble_eq_true rfl) ?_
  have key : ∀ (r i : Nat) (I' : mj_I), i + r = n → (∀ o, o ≠ 296 → o ≠ 297 → I' o = I o) → RA I' v i → mj_J D_X4_answerByChanges (mj_px (fun r I' => r = some (.inl (aq v n k)) ∧ ∀ o, o ≠ 296 → o ≠ 297 → I' o = I o)) 8 [some (.inr (some 294)), some (.inr (some b)), some (.inl (nI k)), some (.inl (nI n)), some (.inl (nI i))] [] (mj_w I') (0, 0) := by
    intro r
    induction r with
    | zero =>
      intro i I' hi hF hA
      obtain rfl : i = n := by omega
      refine J_ild S_X4_answerByChanges rfl rfl ?_
      refine J_ild S_X4_answerByChanges rfl rfl ?_
      refine J_cmp S_X4_answerByChanges rfl (fun c11 => ?_) (fun c11 => False.elim (c11 (nI_le (Nat.le_refl _) (by omega))))
      refine J_ald S_X4_answerByChanges rfl rfl ?_
      refine J_ild S_X4_answerByChanges rfl rfl ?_
      refine J_CVx S_X4_answerByChanges rfl rfl (by assumption) (by omega) (by simp) (C_X4_answer (I := I') hk) rfl ?_
      refine J_retI S_X4_answerByChanges rfl ?_
      exact ⟨I', rfl, by rw [hA.2 k hk he], hF⟩
    | succ r ih =>
      intro i I' hi hF hA
      have hR' : RB I' b v := RB_fr (fun o g1 g2 => hF o (by omega) (by omega)) hR
      refine J_ild S_X4_answerByChanges rfl rfl ?_
      refine J_ild S_X4_answerByChanges rfl rfl ?_
      refine J_cmp S_X4_answerByChanges rfl (fun c11 => False.elim (nI_ge (by omega) (by omega) c11)) (fun c11 => ?_)
      refine J_ald S_X4_answerByChanges rfl rfl ?_
      refine J_ald S_X4_answerByChanges rfl rfl ?_
      refine J_ild S_X4_answerByChanges rfl rfl ?_
      refine J_CV S_X4_answerByChanges rfl rfl (by assumption) (by omega) (by simp) (C_X4_step hB' hR' hI hb9 (show i < tn (v 0) by omega) hA) ?_
      rintro _ _ ⟨I2, rfl, rfl, hF2, hA2⟩
      refine J_inc S_X4_answerByChanges rfl rfl rfl ?_
      refine J_goto S_X4_answerByChanges rfl ?_
      rw [← nI_succ]
      exact ih (i + 1) I2 (by omega) (fun o g1 g2 => (hF2 o g1 g2).trans (hF o g1 g2)) hA2
  refine J_ald S_X4_answerByChanges rfl rfl ?_
  refine J_ald S_X4_answerByChanges rfl rfl ?_
  refine J_CV S_X4_answerByChanges rfl rfl (by assumption) (by omega) (by simp) (C_X4_begin hB' hR hI hb9) ?_
  rintro _ _ ⟨I2, rfl, rfl, hF2, hT2, hA2⟩
  refine J_C S_X4_answerByChanges rfl ?_
  refine J_ist S_X4_answerByChanges rfl rfl ?_
  exact key n 0 I2 (by omega) hF2 ⟨hT2, hA2⟩
/-- the earliest place from which on the answer stays -/
def ltn (f : Nat → Int32) : Nat → Nat
  | 0 => 0
  | n + 1 => if f (n + 1) = f n then ltn f n else n + 1
theorem C_X4_lastTurn (hB : mj_isB b) (hR : RB I b v) (hI : IV v) (hb9 : b + 15 ≤ 294 ∨ 298 ≤ b) {k : Nat} (hk : k < 8) (he : vk v k 4 = 1) : mj_R D_X4_lastTurn [.inr (some 294), .inr (some b), .inl (nI k)] (mj_w I) (mj_px (fun r I' => r = some (.inl (nI (ltn (fun n => aq v n k) (tn (v 0))))) ∧ ∀ o, o ≠ 296 → o ≠ 297 → I' o = I o)) := by
  have m4 := s_294
  have hl := hI.1.2
  have hl0 := hI.1.1
  have hB' := hB
  obtain ⟨h0, h1, h2, h3, h4, h5, h6, hv, hb⟩ := hB
  refine mj_enter (by decide +kernel) (Nat.le_of_ble_eq_true rfl) ?_
  generalize hen : tn (v 0) = en at *
  have key : ∀ (r i : Nat) (I' : mj_I) (q5 : Option mj_V), i + r = en → (∀ o, o ≠ 296 → o ≠ 297 → I' o = I o) → RA I' v i → mj_J D_X4_lastTurn (mj_px (fun r I' => r = some (.inl (nI (ltn (fun n => aq v n k) en))) ∧ ∀ o, o ≠ 296 → o ≠ 297 → I' o = I o)) 10 [some (.inr (some 294)), some (.inr (some b)), some (.inl (nI k)), some (.inl (nI (ltn (fun n => aq v n k) i))), some (.inl (nI i)), q5] [] (mj_w I') (0, 0) := by
    intro r
    induction r with
    | zero =>
      intro i I' q5 hi hF hA
      obtain rfl : i = en := by omega
      have hR' : RB I' b v := RB_fr (fun o g1 g2 => hF o (by omega) (by omega)) hR
      refine J_ild S_X4_lastTurn rfl rfl ?_
      refine J_ald S_X4_lastTurn rfl rfl ?_
      refine J_getR S_X4_lastTurn rfl (by assumption) (by omega) rfl ?_
      refine J_getI S_X4_lastTurn rfl (by assumption) (by omega) ?_
      rw [hR'.1, hl0]
      refine J_cmp S_X4_lastTurn rfl (fun c19 => ?_) (fun c19 => False.elim (c19 (nI_le (Nat.le_refl _) (by omega))))
      refine J_ild S_X4_lastTurn rfl rfl ?_
      refine J_retI S_X4_lastTurn rfl ?_
      exact ⟨I', rfl, rfl, hF⟩
    | succ r ih =>
      intro i I' q5 hi hF hA
      have hR' : RB I' b v := RB_fr (fun o g1 g2 => hF o (by omega) (by omega)) hR
      have ha1 := C_X4_answer (I := I') hk
      rw [hA.2 k hk he] at ha1
      refine J_ild S_X4_lastTurn rfl rfl ?_
      refine J_ald S_X4_lastTurn rfl rfl ?_
      refine J_getR S_X4_lastTurn rfl (by assumption) (by omega) rfl ?_
      refine J_getI S_X4_lastTurn rfl (by assumption) (by omega) ?_
      rw [hR'.1, hl0]
      refine J_cmp S_X4_lastTurn rfl (fun c19 => False.elim (nI_ge (by omega) (by omega) c19)) (fun c19 => ?_)
      refine J_ald S_X4_lastTurn rfl rfl ?_
      refine J_ild S_X4_lastTurn rfl rfl ?_
      refine J_CVx S_X4_lastTurn rfl rfl (by assumption) (by omega) (by simp) (ha1) rfl ?_
      refine J_ist S_X4_lastTurn rfl rfl ?_
      refine J_ald S_X4_lastTurn rfl rfl ?_
      refine J_ald S_X4_lastTurn rfl rfl ?_
      refine J_ild S_X4_lastTurn rfl rfl ?_
      refine J_CV S_X4_lastTurn rfl rfl (by assumption) (by omega) (by simp) (C_X4_step hB' hR' hI hb9 (show i < tn (v 0) by omega) hA) ?_
      rintro _ _ ⟨I2, rfl, rfl, hF2, hA2⟩
      have ha2 := C_X4_answer (I := I2) hk
      rw [hA2.2 k hk he] at ha2
      refine J_ald S_X4_lastTurn rfl rfl ?_
      refine J_ild S_X4_lastTurn rfl rfl ?_
      refine J_CVx S_X4_lastTurn rfl rfl (by assumption) (by omega) (by simp) (ha2) rfl ?_
      refine J_ild S_X4_lastTurn rfl rfl ?_
      refine J_cmp S_X4_lastTurn rfl (fun c43 => ?_) (fun c43 => ?_)
      · refine J_inc S_X4_lastTurn rfl rfl rfl ?_
        refine J_goto S_X4_lastTurn rfl ?_
        have h := ih (i + 1) I2 (some (.inl (aq v i k))) (by omega) (fun o g1 g2 => (hF2 o g1 g2).trans (hF o g1 g2)) hA2
        rw [ltn, if_pos c43, nI_succ] at h
        exact h
      · refine J_ild S_X4_lastTurn rfl rfl ?_
        refine J_C S_X4_lastTurn rfl ?_
        refine J_bin S_X4_lastTurn rfl ?_
        refine J_ist S_X4_lastTurn rfl rfl ?_
        refine J_inc S_X4_lastTurn rfl rfl rfl ?_
        refine J_goto S_X4_lastTurn rfl ?_
        have h := ih (i + 1) I2 (some (.inl (aq v i k))) (by omega) (fun o g1 g2 => (hF2 o g1 g2).trans (hF o g1 g2)) hA2
        rw [ltn, if_neg c43, nI_succ] at h
        exact h
  refine J_ald S_X4_lastTurn rfl rfl ?_
  refine J_ald S_X4_lastTurn rfl rfl ?_
  refine J_CV S_X4_lastTurn rfl rfl (by assumption) (by omega) (by simp) (C_X4_begin hB' hR hI hb9) ?_
  rintro _ _ ⟨I2, rfl, rfl, hF2, hT2, hA2⟩
  refine J_C S_X4_lastTurn rfl ?_
  refine J_ist S_X4_lastTurn rfl rfl ?_
  refine J_C S_X4_lastTurn rfl ?_
  refine J_ist S_X4_lastTurn rfl rfl ?_
  exact key en 0 I2 none (by omega) hF2 ⟨hT2, hA2⟩
end Sp
