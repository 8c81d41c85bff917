theorem OR_mem {v : mv} {r n : Nat} {t : Nat → Nat} (h : OR v r (wt v) n t) {i : Nat} (hi : i < n) : t i < 8 ∧ vk v (t i) 4 = 1 ∧ vk v (t i) 5 = 0 := by
  have := (h.2 (t i)).mpr ⟨i, hi, rfl⟩
  unfold wt ex at this
  simp only [Bool.and_eq_true, decide_eq_true_eq] at this
  exact ⟨this.1, this.2.1, this.2.2⟩
/-- the rank of a view by the rule -/
def rk32 (v : mv) (k : Nat) : Int32 := if v 14 = 1 then -(vk v k 7) else if v 14 = 2 then need v k else 0
theorem nI_negI {n : Nat} (h : n < 2 ^ 30) : (-(nI n)).toInt = -(n : Int) := by
  have h2 := pk_sub_toInt (a := 0) (b := n) (by decide) h
  have e : nI 0 - nI n = -(nI n) := by rw [nI_0]; exact Int32.zero_sub _
  rw [e] at h2
  rw [h2]
  omega
theorem rk_I {v : mv} (hI : IV v) {k : Nat} (hk : k < 8) (he : vk v k 4 = 1) : (rk32 v k).toInt = rkI v (tn (v 14)) k := by
  obtain ⟨-, -, -, -, -, -, -, -, -, -, -, w7, -⟩ := hI.wv hk he
  obtain ⟨n1, n2⟩ := need_N hI hk he
  have h14 := (hI.2.2.2.1 5 (by decide)).1
  have h7 := w7.2
  have e14 : v 14 = nI (tn (v 14)) := h14.1
  have l14 : tn (v 14) ≤ 2 := h14.2
  have h3 : tn (v 14) = 0 ∨ tn (v 14) = 1 ∨ tn (v 14) = 2 := by omega
  unfold rk32 rkI
  rcases h3 with h | h | h <;> rw [h] at e14 ⊢ <;> rw [e14]
  · rw [if_neg (by decide), if_neg (by decide), if_neg (by decide), if_neg (by decide)]; rfl
  · rw [if_pos (by decide), if_pos rfl, w7.1, nI_negI (by omega), tn_nI (by omega)]
  · rw [if_neg (by decide), if_pos (by decide), if_neg (by decide), if_pos rfl, n1, nI_toInt (by omega)]
section Ev
variable {I : mj_I} {b : Nat} {v : mv}
theorem RB_rk {I' : mj_I} (h : RB I b v) (hF : ∀ o, o ≠ b + 6 → I' o = I o) : RB I' b v := by
  obtain ⟨h1, h2, h3, h4, h5⟩ := h
  unfold RB
  rw [hF (b + 1) (by omega), hF b (by omega), hF (b + 5) (by omega), hF (b + 2) (by omega), hF (b + 3) (by omega)]
  exact ⟨h1, h2, h3, h4, fun k hk => by rw [hF (b + 7 + k) (by omega)]; exact h5 k hk⟩
theorem C_X0_rank (hB : mj_isB b) (hR : RB I b v) (hI : IV v) {k : Nat} (hk : k < 8) (he : vk v k 4 = 1) : mj_R D_X0_rank [.inr (some b), .inr (some (b + 7 + k))] (mj_w I) (mj_ex (some (.inl (rk32 v k))) I) := by
  have hB' := hB
  obtain ⟨h0, h1, h2, h3, h4, h5, h6, hv, hb⟩ := hB
  have hvk := hv k hk
  obtain ⟨r1, r2, r3, r4, r5, r6, r7, r8, r9, r10⟩ := (hR.2.2.2.2 k hk).2.2 he
  have hs := C_X0_setting (I := I) hB' (i := 5) (by decide)
  rw [hR.2.2.1 5 (by decide)] at hs
  have hn := C_X0_need hB' hR hI hk he
  have h14 := (hI.2.2.2.1 5 (by decide)).1
  have e14 : v 14 = nI (tn (v 14)) := h14.1
  have l14 : tn (v 14) ≤ 2 := h14.2
  have h3 : tn (v 14) = 0 ∨ tn (v 14) = 1 ∨ tn (v 14) = 2 := by omega
  refine mj_enter (by decide +kernel) (Nat.le_of_ble_eq_true rfl) ?_
  unfold rk32
  rcases h3 with h | h | h <;> rw [h] at e14 <;> rw [e14] <;> rw [show v (9 + 5) = _ from e14] at hs
  · refine J_ald S_X0_rank rfl rfl ?_
    refine J_C S_X0_rank rfl ?_
    refine J_CVx S_X0_rank rfl rfl (by assumption) (by omega) (by simp) (hs) rfl ?_
    refine J_sw S_X0_rank rfl ⟨fun c => False.elim (by revert c; decide), fun _ => ⟨fun c => False.elim (by revert c; decide), fun _ => ?_⟩⟩
    refine J_C S_X0_rank rfl ?_
    refine J_retI S_X0_rank rfl ?_
    rw [if_neg (by decide), if_neg (by decide)]; exact ⟨rfl, rfl⟩
  · refine J_ald S_X0_rank rfl rfl ?_
    refine J_C S_X0_rank rfl ?_
    refine J_CVx S_X0_rank rfl rfl (by assumption) (by omega) (by simp) (hs) rfl ?_
    refine J_sw S_X0_rank rfl ⟨fun _ => ?_, fun c => False.elim (by revert c; decide)⟩
    refine J_ald S_X0_rank rfl rfl ?_
    refine J_getI S_X0_rank rfl (by assumption) (by omega) ?_
    refine J_un S_X0_rank rfl ?_
    refine J_retI S_X0_rank rfl ?_
    rw [if_pos (by decide), r9]; exact ⟨rfl, rfl⟩
  · refine J_ald S_X0_rank rfl rfl ?_
    refine J_C S_X0_rank rfl ?_
    refine J_CVx S_X0_rank rfl rfl (by assumption) (by omega) (by simp) (hs) rfl ?_
    refine J_sw S_X0_rank rfl ⟨fun c => False.elim (by revert c; decide), fun _ => ⟨fun _ => ?_, fun c => False.elim (by revert c; decide)⟩⟩
    refine J_ald S_X0_rank rfl rfl ?_
    refine J_ald S_X0_rank rfl rfl ?_
    refine J_CVx S_X0_rank rfl rfl (by assumption) (by omega) (by simp) (hn) rfl ?_
    refine J_retI S_X0_rank rfl ?_
    rw [if_neg (by decide), if_pos (by decide)]; exact ⟨rfl, rfl⟩
theorem C_X0_noteRanks (hB : mj_isB b) (hR : RB I b v) (hI : IV v) : mj_R D_X0_noteRanks [.inr (some b)] (mj_w I) (mj_px (fun a I' => a = none ∧ (∀ o, o ≠ b + 6 → I' o = I o) ∧ ∀ k, k < 8 → vk v k 4 = 1 → I' (b + 6) k = rk32 v k)) := by
  have hB' := hB
  obtain ⟨h0, h1, h2, h3, h4, h5, h6, hv, hb⟩ := hB
  refine mj_enter (by decide +kernel) (Nat.le_of_ble_eq_true rfl) ?_
  have key : ∀ (s k : Nat) (I' : mj_I) (q2 : Option mj_V), k + s = 8 → (∀ o, o ≠ b + 6 → I' o = I o) → (∀ i, i < k → vk v i 4 = 1 → I' (b + 6) i = rk32 v i) →
      mj_J D_X0_noteRanks (mj_px (fun a I' => a = none ∧ (∀ o, o ≠ b + 6 → I' o = I o) ∧ ∀ k, k < 8 → vk v k 4 = 1 → I' (b + 6) k = rk32 v k)) 2 [some (.inr (some b)), some (.inl (nI k)), q2] [] (mj_w I') (0, 0) := by
    intro s
    induction s with
    | zero =>
      intro k I' q2 hk hF hK
      obtain rfl : k = 8 := by omega
      refine J_ild S_X0_noteRanks rfl rfl ?_
      refine J_ald S_X0_noteRanks rfl rfl ?_
      refine J_getR S_X0_noteRanks rfl (by assumption) (by omega) rfl ?_
      refine J_len S_X0_noteRanks rfl (by assumption) (by omega) (by decide) ?_
      refine J_cmp S_X0_noteRanks rfl (fun c8 => ?_) (fun c8 => False.elim (c8 (by decide)))
      refine J_retV S_X0_noteRanks rfl ?_
      exact ⟨I', rfl, rfl, hF, hK⟩
    | succ s ih =>
      intro k I' q2 hk hF hK
      have hk8 : k < 8 := by omega
      have hR' : RB I' b v := RB_rk hR hF
      have nx : ∀ x q2, (vk v k 4 = 1 → x = rk32 v k) → mj_J D_X0_noteRanks (mj_px (fun a I' => a = none ∧ (∀ o, o ≠ b + 6 → I' o = I o) ∧ ∀ k, k < 8 → vk v k 4 = 1 → I' (b + 6) k = rk32 v k)) 2 [some (.inr (some b)), some (.inl (nI k + 1)), q2] [] (mj_w (mj_up I' (b + 6) k x)) (0, 0) := by
        intro x q2 hx
        rw [← nI_succ]
        refine ih (k + 1) _ q2 (by omega) (fun o g => by rw [mj_up_ne g]; exact hF o g) (fun i hi hie => ?_)
        rw [mj_up_eq]
        by_cases hik : i = k
        · subst hik; rw [up_s, hx hie]
        · rw [up_n hik, hK i (by omega) hie]
      rcases hI.b01 hk8 with he | he
      · refine J_ild S_X0_noteRanks rfl rfl ?_
        refine J_ald S_X0_noteRanks rfl rfl ?_
        refine J_getR S_X0_noteRanks rfl (by assumption) (by omega) rfl ?_
        refine J_len S_X0_noteRanks rfl (by assumption) (by omega) (by decide) ?_
        refine J_cmp S_X0_noteRanks rfl (fun c8 => False.elim (nI_ge (b := 8) hk8 (by decide) c8)) (fun c8 => ?_)
        refine J_ald S_X0_noteRanks rfl rfl ?_
        refine J_ild S_X0_noteRanks rfl rfl ?_
        refine J_CVx S_X0_noteRanks rfl rfl (by assumption) (by omega) (by simp) (C_X0_find_n hB' hR' hI hk8 he) rfl ?_
        refine J_ast S_X0_noteRanks rfl rfl ?_
        refine J_ald S_X0_noteRanks rfl rfl ?_
        refine J_getR S_X0_noteRanks rfl (by assumption) (by omega) rfl ?_
        refine J_ild S_X0_noteRanks rfl rfl ?_
        refine J_ald S_X0_noteRanks rfl rfl ?_
        refine J_nnN S_X0_noteRanks rfl ?_
        refine J_C S_X0_noteRanks rfl ?_
        refine J_goto S_X0_noteRanks rfl ?_
        refine J_iast S_X0_noteRanks rfl (by assumption) (by omega) rfl (by omega) (by decide) ?_
        refine J_inc S_X0_noteRanks rfl rfl rfl ?_
        refine J_goto S_X0_noteRanks rfl ?_
        exact nx _ _ (fun h => by rw [h] at he; exact absurd he (by decide))
      · refine J_ild S_X0_noteRanks rfl rfl ?_
        refine J_ald S_X0_noteRanks rfl rfl ?_
        refine J_getR S_X0_noteRanks rfl (by assumption) (by omega) rfl ?_
        refine J_len S_X0_noteRanks rfl (by assumption) (by omega) (by decide) ?_
        refine J_cmp S_X0_noteRanks rfl (fun c8 => False.elim (nI_ge (b := 8) hk8 (by decide) c8)) (fun c8 => ?_)
        refine J_ald S_X0_noteRanks rfl rfl ?_
        refine J_ild S_X0_noteRanks rfl rfl ?_
        refine J_CVx S_X0_noteRanks rfl rfl (by assumption) (by omega) (by simp) (C_X0_find_y hB' hR' hI hk8 he) rfl ?_
        refine J_ast S_X0_noteRanks rfl rfl ?_
        refine J_ald S_X0_noteRanks rfl rfl ?_
        refine J_getR S_X0_noteRanks rfl (by assumption) (by omega) rfl ?_
        refine J_ild S_X0_noteRanks rfl rfl ?_
        refine J_ald S_X0_noteRanks rfl rfl ?_
        refine J_nnS S_X0_noteRanks rfl ?_
        refine J_ald S_X0_noteRanks rfl rfl ?_
        refine J_ald S_X0_noteRanks rfl rfl ?_
        refine J_CVx S_X0_noteRanks rfl rfl (by assumption) (by omega) (by simp) (C_X0_rank hB' hR' hI hk8 he) rfl ?_
        refine J_iast S_X0_noteRanks rfl (by assumption) (by omega) rfl (by omega) (by decide) ?_
        refine J_inc S_X0_noteRanks rfl rfl rfl ?_
        refine J_goto S_X0_noteRanks rfl ?_
        exact nx _ _ (fun _ => rfl)
  refine J_C S_X0_noteRanks rfl ?_
  refine J_ist S_X0_noteRanks rfl rfl ?_
  exact key 8 0 I none rfl (fun _ _ => rfl) (fun i h => absurd h (Nat.not_lt_zero i))
theorem C_X0_nextOf (hB : mj_isB b) (hI : IV v) {p : Nat → Bool} (hp : ∀ k, k < 8 → p k = true → vk v k 4 = 1) (hK : ∀ k, k < 8 → vk v k 4 = 1 → I (b + 6) k = rk32 v k) : mj_R D_X0_nextOf [.inr (some b), .inl (nI (msk p 8))] (mj_w I) (mj_px (fun a I' => ∃ y, a = some (.inl y) ∧ I' = I ∧ ((y = -1 ∧ ∀ q, q < 8 → p q = false) ∨ ∃ k, y = nI k ∧ k < 8 ∧ p k = true ∧ ∀ q, q < 8 → p q = true → q ≠ k → lx v (tn (v 14)) k q))) := by
  have hB' := hB
  obtain ⟨h0, h1, h2, h3, h4, h5, h6, hv, hb⟩ := hB
  refine mj_enter (by decide +kernel) (Nat.le_of_ble_eq_true rfl) ?_
  have key : ∀ (s i : Nat) (x l : Int32) (q5 : Option mj_V), i + s = 8 → ((x = -1 ∧ ∀ q, q < i → p q = false) ∨ ∃ k, x = nI k ∧ l = rk32 v k ∧ k < i ∧ p k = true ∧ ∀ q, q < i → p q = true → q ≠ k → lx v (tn (v 14)) k q) →
      mj_J D_X0_nextOf (mj_px (fun a I' => ∃ y, a = some (.inl y) ∧ I' = I ∧ ((y = -1 ∧ ∀ q, q < 8 → p q = false) ∨ ∃ k, y = nI k ∧ k < 8 ∧ p k = true ∧ ∀ q, q < 8 → p q = true → q ≠ k → lx v (tn (v 14)) k q))) 7 [some (.inr (some b)), some (.inl (nI (msk p 8))), some (.inl x), some (.inl l), some (.inl (nI i)), q5] [] (mj_w I) (0, 0) := by
    intro s
    induction s with
    | zero =>
      intro i x l q5 hi h
      obtain rfl : i = 8 := by omega
      refine J_ild S_X0_nextOf rfl rfl ?_
      refine J_ald S_X0_nextOf rfl rfl ?_
      refine J_getR S_X0_nextOf rfl (by assumption) (by omega) rfl ?_
      refine J_len S_X0_nextOf rfl (by assumption) (by omega) (by decide) ?_
      refine J_cmp S_X0_nextOf rfl (fun c14 => ?_) (fun c14 => False.elim (c14 (by decide)))
      refine J_ild S_X0_nextOf rfl rfl ?_
      refine J_retI S_X0_nextOf rfl ?_
      refine ⟨I, rfl, _, rfl, rfl, ?_⟩
      rcases h with ⟨rfl, h⟩|⟨k, rfl, -, h⟩
      · exact Or.inl ⟨rfl, h⟩
      · exact Or.inr ⟨k, rfl, h⟩
    | succ s ih =>
      intro i x l q5 hi h
      have hi8 : i < 8 := by omega
      have hm := msk_and p 8 i hi8 (by decide)
      cases hpi : p i
      · have g := fun q5 => ih (i + 1) x l q5 (by omega) (by
          rcases h with ⟨rfl, h⟩ | ⟨k, rfl, hl, hk, hpk, h⟩
          · refine Or.inl ⟨rfl, fun q hq => ?_⟩
            by_cases e : q = i
            · rw [e]; exact hpi
            · exact h q (by omega)
          · refine Or.inr ⟨k, rfl, hl, by omega, hpk, fun q hq hpq hne => ?_⟩
            by_cases e : q = i
            · rw [e, hpi] at hpq; exact absurd hpq (by decide)
            · exact h q (by omega) hpq hne)
        have e0 := hm.mpr hpi
        refine J_ild S_X0_nextOf rfl rfl ?_
        refine J_ald S_X0_nextOf rfl rfl ?_
        refine J_getR S_X0_nextOf rfl (by assumption) (by omega) rfl ?_
        refine J_len S_X0_nextOf rfl (by assumption) (by omega) (by decide) ?_
        refine J_cmp S_X0_nextOf rfl (fun c14 => False.elim (nI_ge (b := 8) hi8 (by decide) c14)) (fun c14 => ?_)
        refine J_ild S_X0_nextOf rfl rfl ?_
        refine J_C S_X0_nextOf rfl ?_
        refine J_ild S_X0_nextOf rfl rfl ?_
        refine J_bin S_X0_nextOf rfl ?_
        refine J_bin S_X0_nextOf rfl ?_
        refine J_if S_X0_nextOf rfl (fun c23 => ?_) (fun c23 => False.elim (c23 e0))
        refine J_C S_X0_nextOf rfl ?_
        refine J_ist S_X0_nextOf rfl rfl ?_
        refine J_ild S_X0_nextOf rfl rfl ?_
        refine J_if S_X0_nextOf rfl (fun c35 => ?_) (fun c35 => False.elim (c35 rfl))
        refine J_inc S_X0_nextOf rfl rfl rfl ?_
        refine J_goto S_X0_nextOf rfl ?_
        rw [← nI_succ]
        exact g _
      · have e0 : ¬ (nI (msk p 8) &&& (1 <<< (nI i &&& 31)) = 0) := fun c => by rw [hm.mp c] at hpi; exact absurd hpi (by decide)
        have hie := hp i hi8 hpi
        have eK := hK i hi8 hie
        have take : (∀ q, q < i → p q = true → lx v (tn (v 14)) i q) → ∀ q5, mj_J D_X0_nextOf (mj_px (fun a I' => ∃ y, a = some (.inl y) ∧ I' = I ∧ ((y = -1 ∧ ∀ q, q < 8 → p q = false) ∨ ∃ k, y = nI k ∧ k < 8 ∧ p k = true ∧ ∀ q, q < 8 → p q = true → q ≠ k → lx v (tn (v 14)) k q))) 7 [some (.inr (some b)), some (.inl (nI (msk p 8))), some (.inl (nI i)), some (.inl (rk32 v i)), some (.inl (nI (i + 1))), q5] [] (mj_w I) (0, 0) :=
          fun hq q5 => ih (i + 1) (nI i) (rk32 v i) q5 (by omega) (Or.inr ⟨i, rfl, rfl, by omega, hpi, fun q h1 h2 h3 => hq q (by omega) h2⟩)
        rcases h with ⟨rfl, h⟩ | ⟨k, rfl, rfl, hk, hpk, h⟩
        · refine J_ild S_X0_nextOf rfl rfl ?_
          refine J_ald S_X0_nextOf rfl rfl ?_
          refine J_getR S_X0_nextOf rfl (by assumption) (by omega) rfl ?_
          refine J_len S_X0_nextOf rfl (by assumption) (by omega) (by decide) ?_
          refine J_cmp S_X0_nextOf rfl (fun c14 => False.elim (nI_ge (b := 8) hi8 (by decide) c14)) (fun c14 => ?_)
          refine J_ild S_X0_nextOf rfl rfl ?_
          refine J_C S_X0_nextOf rfl ?_
          refine J_ild S_X0_nextOf rfl rfl ?_
          refine J_bin S_X0_nextOf rfl ?_
          refine J_bin S_X0_nextOf rfl ?_
          refine J_if S_X0_nextOf rfl (fun c23 => False.elim (e0 c23)) (fun c23 => ?_)
          refine J_C S_X0_nextOf rfl ?_
          refine J_goto S_X0_nextOf rfl ?_
          refine J_ist S_X0_nextOf rfl rfl ?_
          refine J_ild S_X0_nextOf rfl rfl ?_
          refine J_if S_X0_nextOf rfl (fun c35 => False.elim (absurd c35 (by decide))) (fun c35 => ?_)
          refine J_ild S_X0_nextOf rfl rfl ?_
          refine J_C S_X0_nextOf rfl ?_
          refine J_cmp S_X0_nextOf rfl (fun c40 => ?_) (fun c40 => False.elim (c40 rfl))
          refine J_ild S_X0_nextOf rfl rfl ?_
          refine J_ist S_X0_nextOf rfl rfl ?_
          refine J_ald S_X0_nextOf rfl rfl ?_
          refine J_getR S_X0_nextOf rfl (by assumption) (by omega) rfl ?_
          refine J_ild S_X0_nextOf rfl rfl ?_
          refine J_iald S_X0_nextOf rfl (by assumption) (by omega) (j := i) rfl (by omega) (by decide) ?_
          rw [eK]
          refine J_ist S_X0_nextOf rfl rfl ?_
          refine J_inc S_X0_nextOf rfl rfl rfl ?_
          refine J_goto S_X0_nextOf rfl ?_
          rw [← nI_succ]
          exact take (fun q h1 h2 => by rw [h q h1] at h2; exact absurd h2 (by decide)) _
        · have hke := hp k (by omega) hpk
          have rk1 := rk_I hI (k := k) (by omega) hke
          have rk2 := rk_I hI hi8 hie
          have n1 : ¬ nI k = -1 := fun c => by
            have hpos := nI_pos (n := k) (by omega)
            rw [c] at hpos
            exact hpos (by decide)
          by_cases hlt : rk32 v i < rk32 v k
          · refine J_ild S_X0_nextOf rfl rfl ?_
            refine J_ald S_X0_nextOf rfl rfl ?_
            refine J_getR S_X0_nextOf rfl (by assumption) (by omega) rfl ?_
            refine J_len S_X0_nextOf rfl (by assumption) (by omega) (by decide) ?_
            refine J_cmp S_X0_nextOf rfl (fun c14 => False.elim (nI_ge (b := 8) hi8 (by decide) c14)) (fun c14 => ?_)
            refine J_ild S_X0_nextOf rfl rfl ?_
            refine J_C S_X0_nextOf rfl ?_
            refine J_ild S_X0_nextOf rfl rfl ?_
            refine J_bin S_X0_nextOf rfl ?_
            refine J_bin S_X0_nextOf rfl ?_
            refine J_if S_X0_nextOf rfl (fun c23 => False.elim (e0 c23)) (fun c23 => ?_)
            refine J_C S_X0_nextOf rfl ?_
            refine J_goto S_X0_nextOf rfl ?_
            refine J_ist S_X0_nextOf rfl rfl ?_
            refine J_ild S_X0_nextOf rfl rfl ?_
            refine J_if S_X0_nextOf rfl (fun c35 => False.elim (absurd c35 (by decide))) (fun c35 => ?_)
            refine J_ild S_X0_nextOf rfl rfl ?_
            refine J_C S_X0_nextOf rfl ?_
            refine J_cmp S_X0_nextOf rfl (fun c40 => False.elim (n1 c40)) (fun c40 => ?_)
            refine J_ald S_X0_nextOf rfl rfl ?_
            refine J_getR S_X0_nextOf rfl (by assumption) (by omega) rfl ?_
            refine J_ild S_X0_nextOf rfl rfl ?_
            refine J_iald S_X0_nextOf rfl (by assumption) (by omega) (j := i) rfl (by omega) (by decide) ?_
            rw [eK]
            refine J_ild S_X0_nextOf rfl rfl ?_
            refine J_cmp S_X0_nextOf rfl (fun c51 => False.elim (Int32.not_le.mpr hlt c51)) (fun c51 => ?_)
            refine J_ild S_X0_nextOf rfl rfl ?_
            refine J_ist S_X0_nextOf rfl rfl ?_
            refine J_ald S_X0_nextOf rfl rfl ?_
            refine J_getR S_X0_nextOf rfl (by assumption) (by omega) rfl ?_
            refine J_ild S_X0_nextOf rfl rfl ?_
            refine J_iald S_X0_nextOf rfl (by assumption) (by omega) (j := i) rfl (by omega) (by decide) ?_
            rw [eK]
            refine J_ist S_X0_nextOf rfl rfl ?_
            refine J_inc S_X0_nextOf rfl rfl rfl ?_
            refine J_goto S_X0_nextOf rfl ?_
            rw [← nI_succ]
            refine take (fun q h1 h2 => ?_) _
            have ll : lx v (tn (v 14)) i k := Or.inl (by rw [← rk1, ← rk2]; exact Int32.lt_iff_toInt_lt.mp hlt)
            by_cases e : q = k
            · rw [e]; exact ll
            · exact lx_tr ll (h q h1 h2 e)
          · have g := fun q5 => ih (i + 1) (nI k) (rk32 v k) q5 (by omega) (Or.inr ⟨k, rfl, rfl, by omega, hpk, fun q hq hpq hne => by
              by_cases e : q = i
              · have : ¬ (rk32 v i).toInt < (rk32 v k).toInt := fun c => hlt (Int32.lt_iff_toInt_lt.mpr c)
                rw [rk1, rk2] at this
                rw [e]; unfold lx; omega
              · exact h q (by omega) hpq hne⟩)
            refine J_ild S_X0_nextOf rfl rfl ?_
            refine J_ald S_X0_nextOf rfl rfl ?_
            refine J_getR S_X0_nextOf rfl (by assumption) (by omega) rfl ?_
            refine J_len S_X0_nextOf rfl (by assumption) (by omega) (by decide) ?_
            refine J_cmp S_X0_nextOf rfl (fun c14 => False.elim (nI_ge (b := 8) hi8 (by decide) c14)) (fun c14 => ?_)
            refine J_ild S_X0_nextOf rfl rfl ?_
            refine J_C S_X0_nextOf rfl ?_
            refine J_ild S_X0_nextOf rfl rfl ?_
            refine J_bin S_X0_nextOf rfl ?_
            refine J_bin S_X0_nextOf rfl ?_
            refine J_if S_X0_nextOf rfl (fun c23 => False.elim (e0 c23)) (fun c23 => ?_)
            refine J_C S_X0_nextOf rfl ?_
            refine J_goto S_X0_nextOf rfl ?_
            refine J_ist S_X0_nextOf rfl rfl ?_
            refine J_ild S_X0_nextOf rfl rfl ?_
            refine J_if S_X0_nextOf rfl (fun c35 => False.elim (absurd c35 (by decide))) (fun c35 => ?_)
            refine J_ild S_X0_nextOf rfl rfl ?_
            refine J_C S_X0_nextOf rfl ?_
            refine J_cmp S_X0_nextOf rfl (fun c40 => False.elim (n1 c40)) (fun c40 => ?_)
            refine J_ald S_X0_nextOf rfl rfl ?_
            refine J_getR S_X0_nextOf rfl (by assumption) (by omega) rfl ?_
            refine J_ild S_X0_nextOf rfl rfl ?_
            refine J_iald S_X0_nextOf rfl (by assumption) (by omega) (j := i) rfl (by omega) (by decide) ?_
            rw [eK]
            refine J_ild S_X0_nextOf rfl rfl ?_
            refine J_cmp S_X0_nextOf rfl (fun c51 => ?_) (fun c51 => False.elim (c51 (Int32.not_lt.mp hlt)))
            refine J_inc S_X0_nextOf rfl rfl rfl ?_
            refine J_goto S_X0_nextOf rfl ?_
            rw [← nI_succ]
            exact g _
  refine J_C S_X0_nextOf rfl ?_
  refine J_ist S_X0_nextOf rfl rfl ?_
  refine J_C S_X0_nextOf rfl ?_
  refine J_ist S_X0_nextOf rfl rfl ?_
  refine J_C S_X0_nextOf rfl ?_
  refine J_ist S_X0_nextOf rfl rfl ?_
  exact key 8 0 (-1) 0 none rfl (Or.inl ⟨rfl, fun q h => absurd h (Nat.not_lt_zero q)⟩)
end Ev
