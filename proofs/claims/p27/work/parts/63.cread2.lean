section Cs
variable {I : mj_I}
theorem C_X3_readKind {L p : Nat} (hL : L ≤ 40) (h21 : I 2 1 = nI L) (hp : p ≤ L) (h12 : I 1 2 = nI p) {s t : Nat} (hs : skp (I 3) L p = s) (ht : tkn (I 3) L s = t) : mj_R D_X3_readKind [.inr (some 1)] (mj_w I) (mj_px (fun r I' => r = some (.inl (if kdN (I 3) s t = 5 then 0 else nI (kdN (I 3) s t))) ∧ RX I I' s t (flt (I 1 3) (!decide (kdN (I 3) s t = 5)) s))) := by
  have m0 := s_1
  have hadv := C_X3_advance (I := I) hL h21 hp h12
  rw [hs, ht] at hadv
  have hsL := skp_le (I 3) hp
  rw [hs] at hsL
  have htL := tkn_le (I 3) hsL.2
  rw [ht] at htL
  refine mj_enter (by decide +kernel) (Nat.le_of_ble_eq_true rfl) ?_
  have key : ∀ (n c : Nat) (J : mj_I), c + n = 5 → RX I J s t (I 1 3) → kdR (I 3) s t n c = kdN (I 3) s t →
      mj_J D_X3_readKind (mj_px (fun r I' => r = some (.inl (if kdN (I 3) s t = 5 then 0 else nI (kdN (I 3) s t))) ∧ RX I I' s t (flt (I 1 3) (!decide (kdN (I 3) s t = 5)) s))) 6 [some (.inr (some 1)), some (.inl (nI c))] [] (mj_w J) (0, 0) := by
    intro n
    induction n with
    | zero =>
      intro c J hc hJ hk
      obtain rfl : c = 5 := by omega
      have hrf := C_X3_refuse (I := J) hJ.2.1 hJ.2.2.1
      rw [hJ.2.2.2.1] at hrf
      rw [kdR] at hk
      rw [← hk, if_pos rfl, decide_eq_true rfl, Bool.not_true]
      refine J_ild S_X3_readKind rfl rfl ?_
      refine J_C S_X3_readKind rfl ?_
      refine J_cmp S_X3_readKind rfl (fun c8 => ?_) (fun c8 => False.elim (c8 (Int32.le_refl _)))
      refine J_ald S_X3_readKind rfl rfl ?_
      refine J_CV S_X3_readKind rfl rfl (by assumption) (by omega) (by simp) (hrf) ?_
      rintro _ _ ⟨J2, rfl, rfl, g⟩
      refine J_C S_X3_readKind rfl ?_
      refine J_retI S_X3_readKind rfl ?_
      exact ⟨J2, rfl, rfl, rx_tr hJ g⟩
    | succ n ih =>
      intro c J hc hJ hk
      have e21 : J 2 1 = nI L := by rw [hJ.1 2 (by decide)]; exact h21
      have htk := C_X3_tokenIs (I := J) (i := c) (by omega) hL e21 hJ.2.1 hJ.2.2.1 htL.1 htL.2
      rw [hJ.1 3 (by decide)] at htk
      rw [kdR] at hk
      cases hq : tq (I 3) s t c
      · rw [hq] at hk htk
        refine J_ild S_X3_readKind rfl rfl ?_
        refine J_C S_X3_readKind rfl ?_
        refine J_cmp S_X3_readKind rfl (fun c8 => False.elim (nI_ge (show c < 5 by omega) (by omega) c8)) (fun c8 => ?_)
        refine J_ald S_X3_readKind rfl rfl ?_
        refine J_ild S_X3_readKind rfl rfl ?_
        refine J_CSx S_X3_readKind rfl rfl (by simp) (C_X3_word (by omega)) rfl ?_
        refine J_CVx S_X3_readKind rfl rfl (by assumption) (by omega) (by simp) (htk) rfl ?_
        refine J_if S_X3_readKind rfl (fun c19 => ?_) (fun c19 => False.elim (c19 rfl))
        refine J_inc S_X3_readKind rfl rfl rfl ?_
        refine J_goto S_X3_readKind rfl ?_
        rw [← nI_succ]
        exact ih (c + 1) J (by omega) hJ hk
      · rw [hq, if_pos rfl] at hk
        rw [hq] at htk
        rw [← hk, if_neg (by omega), decide_eq_false (by omega), Bool.not_false, flt_t]
        refine J_ild S_X3_readKind rfl rfl ?_
        refine J_C S_X3_readKind rfl ?_
        refine J_cmp S_X3_readKind rfl (fun c8 => False.elim (nI_ge (show c < 5 by omega) (by omega) c8)) (fun c8 => ?_)
        refine J_ald S_X3_readKind rfl rfl ?_
        refine J_ild S_X3_readKind rfl rfl ?_
        refine J_CSx S_X3_readKind rfl rfl (by simp) (C_X3_word (by omega)) rfl ?_
        refine J_CVx S_X3_readKind rfl rfl (by assumption) (by omega) (by simp) (htk) rfl ?_
        refine J_if S_X3_readKind rfl (fun c19 => False.elim (absurd c19 (by decide))) (fun c19 => ?_)
        refine J_ild S_X3_readKind rfl rfl ?_
        refine J_retI S_X3_readKind rfl ?_
        exact ⟨J, rfl, rfl, hJ⟩
  refine J_ald S_X3_readKind rfl rfl ?_
  refine J_CV S_X3_readKind rfl rfl (by assumption) (by omega) (by simp) (hadv) ?_
  rintro _ _ ⟨J, rfl, rfl, g⟩
  refine J_C S_X3_readKind rfl ?_
  refine J_ist S_X3_readKind rfl rfl ?_
  exact key 5 0 J rfl g rfl
theorem C_X3_readTable {L p : Nat} (hL : L ≤ 40) (h21 : I 2 1 = nI L) (hp : p ≤ L) (h12 : I 1 2 = nI p) {s t : Nat} (hs : skp (I 3) L p = s) (ht : tkn (I 3) L s = t) : mj_R D_X3_readTable [.inr (some 1)] (mj_w I) (mj_px (fun r I' => r = some (.inl (if tq (I 3) s t 5 = true then 0 else 1)) ∧ RX I I' s t (flt (I 1 3) (tq (I 3) s t 5 || tq (I 3) s t 6) s))) := by
  have m0 := s_1
  have hadv := C_X3_advance (I := I) hL h21 hp h12
  rw [hs, ht] at hadv
  have hsL := skp_le (I 3) hp
  rw [hs] at hsL
  have htL := tkn_le (I 3) hsL.2
  rw [ht] at htL
  have htk := fun (J : mj_I) (hJ : RX I J s t (I 1 3)) (i : Nat) (hi : i < 8) => (show mj_R D_X3_tokenIs [.inr (some 1), .inr (some (1010 + i))] (mj_w J) (mj_ex (some (.inl (bi (tq (I 3) s t i)))) J) from by
    have h := C_X3_tokenIs (I := J) (i := i) hi hL (by rw [hJ.1 2 (by decide)]; exact h21) hJ.2.1 hJ.2.2.1 htL.1 htL.2
    rw [hJ.1 3 (by decide)] at h
    exact h)
  have hrf := fun (J : mj_I) (hJ : RX I J s t (I 1 3)) => (show mj_R D_X3_refuse [.inr (some 1)] (mj_w J) (mj_px (fun r I' => r = none ∧ RX J I' s t (flt (I 1 3) false s))) from by
    have h := C_X3_refuse (I := J) hJ.2.1 hJ.2.2.1
    rw [hJ.2.2.2.1] at h
    exact h)
  refine mj_enter (by decide +kernel) (Nat.le_of_ble_eq_true rfl) ?_
  cases h5 : tq (I 3) s t 5
  · cases h6 : tq (I 3) s t 6
    · refine J_ald S_X3_readTable rfl rfl ?_
      refine J_CV S_X3_readTable rfl rfl (by assumption) (by omega) (by simp) (hadv) ?_
      rintro _ _ ⟨J, rfl, rfl, g⟩
      have t5 := htk J g 5 (by decide)
      have t6 := htk J g 6 (by decide)
      rw [h5] at t5
      rw [h6] at t6
      refine J_ald S_X3_readTable rfl rfl ?_
      refine J_ldcS S_X3_readTable rfl ?_
      refine J_CVx S_X3_readTable rfl rfl (by assumption) (by omega) (by simp) (t5) rfl ?_
      refine J_if S_X3_readTable rfl (fun c10 => ?_) (fun c10 => False.elim (c10 rfl))
      refine J_ald S_X3_readTable rfl rfl ?_
      refine J_ldcS S_X3_readTable rfl ?_
      refine J_CVx S_X3_readTable rfl rfl (by assumption) (by omega) (by simp) (t6) rfl ?_
      refine J_if S_X3_readTable rfl (fun c21 => False.elim (c21 rfl)) (fun c21 => ?_)
      refine J_ald S_X3_readTable rfl rfl ?_
      refine J_CV S_X3_readTable rfl rfl (by assumption) (by omega) (by simp) (hrf J g) ?_
      rintro _ _ ⟨J2, rfl, rfl, g2⟩
      refine J_C S_X3_readTable rfl ?_
      refine J_retI S_X3_readTable rfl ?_
      exact ⟨J2, rfl, rfl, rx_tr g g2⟩
    · refine J_ald S_X3_readTable rfl rfl ?_
      refine J_CV S_X3_readTable rfl rfl (by assumption) (by omega) (by simp) (hadv) ?_
      rintro _ _ ⟨J, rfl, rfl, g⟩
      have t5 := htk J g 5 (by decide)
      have t6 := htk J g 6 (by decide)
      rw [h5] at t5
      rw [h6] at t6
      refine J_ald S_X3_readTable rfl rfl ?_
      refine J_ldcS S_X3_readTable rfl ?_
      refine J_CVx S_X3_readTable rfl rfl (by assumption) (by omega) (by simp) (t5) rfl ?_
      refine J_if S_X3_readTable rfl (fun c10 => ?_) (fun c10 => False.elim (c10 rfl))
      refine J_ald S_X3_readTable rfl rfl ?_
      refine J_ldcS S_X3_readTable rfl ?_
      refine J_CVx S_X3_readTable rfl rfl (by assumption) (by omega) (by simp) (t6) rfl ?_
      refine J_if S_X3_readTable rfl (fun c21 => ?_) (fun c21 => False.elim (absurd c21 (by decide)))
      refine J_C S_X3_readTable rfl ?_
      refine J_retI S_X3_readTable rfl ?_
      exact ⟨J, rfl, rfl, g⟩
  · refine J_ald S_X3_readTable rfl rfl ?_
    refine J_CV S_X3_readTable rfl rfl (by assumption) (by omega) (by simp) (hadv) ?_
    rintro _ _ ⟨J, rfl, rfl, g⟩
    have t5 := htk J g 5 (by decide)
    rw [h5] at t5
    refine J_ald S_X3_readTable rfl rfl ?_
    refine J_ldcS S_X3_readTable rfl ?_
    refine J_CVx S_X3_readTable rfl rfl (by assumption) (by omega) (by simp) (t5) rfl ?_
    refine J_if S_X3_readTable rfl (fun c10 => False.elim (absurd c10 (by decide))) (fun c10 => ?_)
    refine J_C S_X3_readTable rfl ?_
    refine J_retI S_X3_readTable rfl ?_
    exact ⟨J, rfl, rfl, g⟩
theorem C_X3_readDash {L p : Nat} (hL : L ≤ 40) (h21 : I 2 1 = nI L) (hp : p ≤ L) (h12 : I 1 2 = nI p) {s t : Nat} (hs : skp (I 3) L p = s) (ht : tkn (I 3) L s = t) : mj_R D_X3_readDash [.inr (some 1)] (mj_w I) (mj_px (fun r I' => r = none ∧ RX I I' s t (flt (I 1 3) (tq (I 3) s t 7) s))) := by
  have m0 := s_1
  have hadv := C_X3_advance (I := I) hL h21 hp h12
  rw [hs, ht] at hadv
  have hsL := skp_le (I 3) hp
  rw [hs] at hsL
  have htL := tkn_le (I 3) hsL.2
  rw [ht] at htL
  have htk := fun (J : mj_I) (hJ : RX I J s t (I 1 3)) (i : Nat) (hi : i < 8) => (show mj_R D_X3_tokenIs [.inr (some 1), .inr (some (1010 + i))] (mj_w J) (mj_ex (some (.inl (bi (tq (I 3) s t i)))) J) from by
    have h := C_X3_tokenIs (I := J) (i := i) hi hL (by rw [hJ.1 2 (by decide)]; exact h21) hJ.2.1 hJ.2.2.1 htL.1 htL.2
    rw [hJ.1 3 (by decide)] at h
    exact h)
  have hrf := fun (J : mj_I) (hJ : RX I J s t (I 1 3)) => (show mj_R D_X3_refuse [.inr (some 1)] (mj_w J) (mj_px (fun r I' => r = none ∧ RX J I' s t (flt (I 1 3) false s))) from by
    have h := C_X3_refuse (I := J) hJ.2.1 hJ.2.2.1
    rw [hJ.2.2.2.1] at h
    exact h)
  refine mj_enter (by decide +kernel) (Nat.le_of_ble_eq_true rfl) ?_
  cases h7 : tq (I 3) s t 7
  · refine J_ald S_X3_readDash rfl rfl ?_
    refine J_CV S_X3_readDash rfl rfl (by assumption) (by omega) (by simp) (hadv) ?_
    rintro _ _ ⟨J, rfl, rfl, g⟩
    have t7 := htk J g 7 (by decide)
    rw [h7] at t7
    refine J_ald S_X3_readDash rfl rfl ?_
    refine J_ldcS S_X3_readDash rfl ?_
    refine J_CVx S_X3_readDash rfl rfl (by assumption) (by omega) (by simp) (t7) rfl ?_
    refine J_if S_X3_readDash rfl (fun c10 => False.elim (c10 rfl)) (fun c10 => ?_)
    refine J_ald S_X3_readDash rfl rfl ?_
    refine J_CV S_X3_readDash rfl rfl (by assumption) (by omega) (by simp) (hrf J g) ?_
    rintro _ _ ⟨J2, rfl, rfl, g2⟩
    refine J_retV S_X3_readDash rfl ?_
    exact ⟨J2, rfl, rfl, rx_tr g g2⟩
  · refine J_ald S_X3_readDash rfl rfl ?_
    refine J_CV S_X3_readDash rfl rfl (by assumption) (by omega) (by simp) (hadv) ?_
    rintro _ _ ⟨J, rfl, rfl, g⟩
    have t7 := htk J g 7 (by decide)
    rw [h7] at t7
    refine J_ald S_X3_readDash rfl rfl ?_
    refine J_ldcS S_X3_readDash rfl ?_
    refine J_CVx S_X3_readDash rfl rfl (by assumption) (by omega) (by simp) (t7) rfl ?_
    refine J_if S_X3_readDash rfl (fun c10 => ?_) (fun c10 => False.elim (absurd c10 (by decide)))
    refine J_retV S_X3_readDash rfl ?_
    exact ⟨J, rfl, rfl, g⟩
theorem C_X3_readEnd {L p : Nat} (hL : L ≤ 40) (h21 : I 2 1 = nI L) (hp : p ≤ L) (h12 : I 1 2 = nI p) {s t : Nat} (hs : skp (I 3) L p = s) (ht : tkn (I 3) L s = t) : mj_R D_X3_readEnd [.inr (some 1)] (mj_w I) (mj_px (fun r I' => r = none ∧ RX I I' s t (flt (I 1 3) (decide (L ≤ s)) s))) := by
  have m0 := s_1
  have m1 := s_2
  have hadv := C_X3_advance (I := I) hL h21 hp h12
  rw [hs, ht] at hadv
  have hsL := skp_le (I 3) hp
  rw [hs] at hsL
  have hrf := fun (J : mj_I) (hJ : RX I J s t (I 1 3)) => (show mj_R D_X3_refuse [.inr (some 1)] (mj_w J) (mj_px (fun r I' => r = none ∧ RX J I' s t (flt (I 1 3) false s))) from by
    have h := C_X3_refuse (I := J) hJ.2.1 hJ.2.2.1
    rw [hJ.2.2.2.1] at h
    exact h)
  refine mj_enter (by decide +kernel) (Nat.le_of_ble_eq_true rfl) ?_
  by_cases hc : L ≤ s
  · rw [decide_eq_true hc]
    refine J_ald S_X3_readEnd rfl rfl ?_
    refine J_CV S_X3_readEnd rfl rfl (by assumption) (by omega) (by simp) (hadv) ?_
    rintro _ _ ⟨J, rfl, rfl, g⟩
    refine J_ald S_X3_readEnd rfl rfl ?_
    refine J_getI S_X3_readEnd rfl (by assumption) (by omega) ?_
    refine J_ald S_X3_readEnd rfl rfl ?_
    refine J_getR S_X3_readEnd rfl (o' := 2) (by assumption) (by omega) rfl ?_
    refine J_getI S_X3_readEnd rfl (by assumption) (by omega) ?_
    rw [g.2.1, g.1 2 (by decide), h21]
    refine J_cmp S_X3_readEnd rfl (fun c15 => ?_) (fun c15 => False.elim (c15 (nI_le hc (by omega))))
    refine J_retV S_X3_readEnd rfl ?_
    exact ⟨J, rfl, rfl, g⟩
  · rw [decide_eq_false hc]
    refine J_ald S_X3_readEnd rfl rfl ?_
    refine J_CV S_X3_readEnd rfl rfl (by assumption) (by omega) (by simp) (hadv) ?_
    rintro _ _ ⟨J, rfl, rfl, g⟩
    refine J_ald S_X3_readEnd rfl rfl ?_
    refine J_getI S_X3_readEnd rfl (by assumption) (by omega) ?_
    refine J_ald S_X3_readEnd rfl rfl ?_
    refine J_getR S_X3_readEnd rfl (o' := 2) (by assumption) (by omega) rfl ?_
    refine J_getI S_X3_readEnd rfl (by assumption) (by omega) ?_
    rw [g.2.1, g.1 2 (by decide), h21]
    refine J_cmp S_X3_readEnd rfl (fun c15 => False.elim (nI_ge (show s < L by omega) (by omega) c15)) (fun c15 => ?_)
    refine J_ald S_X3_readEnd rfl rfl ?_
    refine J_CV S_X3_readEnd rfl rfl (by assumption) (by omega) (by simp) (hrf J g) ?_
    rintro _ _ ⟨J2, rfl, rfl, g2⟩
    refine J_retV S_X3_readEnd rfl ?_
    exact ⟨J2, rfl, rfl, rx_tr g g2⟩
theorem C_X3_readNumber {L p : Nat} (hL : L ≤ 40) (h21 : I 2 1 = nI L) (hp : p ≤ L) (h12 : I 1 2 = nI p) {s t : Nat} (hs : skp (I 3) L p = s) (ht : tkn (I 3) L s = t) : mj_R D_X3_readNumber [.inr (some 1)] (mj_w I) (mj_px (fun r I' => r = some (.inl (if nmOk (I 3) L s t = true then nmV (I 3) s t else 0)) ∧ RX I I' s t (flt (I 1 3) (nmOk (I 3) L s t) s))) := by
  have m0 := s_1
  have m1 := s_2
  have hadv := C_X3_advance (I := I) hL h21 hp h12
  rw [hs, ht] at hadv
  have hsL := skp_le (I 3) hp
  rw [hs] at hsL
  have htL := tkn_le (I 3) hsL.2
  rw [ht] at htL
  have hgt := tkn_gt (I 3) (L := L) (s := s)
  rw [ht] at hgt
  have hrf := fun (J : mj_I) (hJ : RX I J s t (I 1 3)) => (show mj_R D_X3_refuse [.inr (some 1)] (mj_w J) (mj_px (fun r I' => r = none ∧ RX J I' s t (flt (I 1 3) false s))) from by
    have h := C_X3_refuse (I := J) hJ.2.1 hJ.2.2.1
    rw [hJ.2.2.2.1] at h
    exact h)
  have hat := fun (J : mj_I) (hJ : RX I J s t (I 1 3)) (i : Nat) (hi : i < L) => (show mj_R D_X7_at [.inr (some 2), .inl (nI i)] (mj_w J) (mj_ex (some (.inl (I 3 i))) J) from by
    have h := C_X7_at (I := J) (n := L) (i := i) hL (by rw [hJ.1 2 (by decide)]; exact h21) (by omega)
    rw [if_pos hi, hJ.1 3 (by decide)] at h
    exact h)
  have ha0 := fun (J : mj_I) (hJ : RX I J s t (I 1 3)) (i : Nat) (hi : L ≤ i) (hi2 : i ≤ 40) => (show mj_R D_X7_at [.inr (some 2), .inl (nI i)] (mj_w J) (mj_ex (some (.inl 0)) J) from by
    have h := C_X7_at (I := J) (n := L) (i := i) hL (by rw [hJ.1 2 (by decide)]; exact h21) (by omega)
    rw [if_neg (by omega)] at h
    exact h)
  refine mj_enter (by decide +kernel) (Nat.le_of_ble_eq_true rfl) ?_
  have hdg := fun (J : mj_I) (x : Int32) => C_X3_isDigit (I := J) (x := x)
  by_cases hsl : s < L
  · cases hd : isD (I 3 s)
    · have e : nmOk (I 3) L s t = false := by unfold nmOk; rw [hd, Bool.false_and, Bool.and_false]
      rw [e]
      refine J_ald S_X3_readNumber rfl rfl ?_
      refine J_CV S_X3_readNumber rfl rfl (by assumption) (by omega) (by simp) (hadv) ?_
      rintro _ _ ⟨J, rfl, rfl, g⟩
      have d1 := hdg J (I 3 s)
      rw [hd] at d1
      refine J_ald S_X3_readNumber rfl rfl ?_
      refine J_getI S_X3_readNumber rfl (by assumption) (by omega) ?_
      refine J_ald S_X3_readNumber rfl rfl ?_
      refine J_getI S_X3_readNumber rfl (by assumption) (by omega) ?_
      rw [g.2.1, g.2.2.1]
      refine J_bin S_X3_readNumber rfl ?_
      rw [pk_sub htL.1]
      refine J_ist S_X3_readNumber rfl rfl ?_
      refine J_ald S_X3_readNumber rfl rfl ?_
      refine J_getR S_X3_readNumber rfl (o' := 2) (by assumption) (by omega) rfl ?_
      refine J_ald S_X3_readNumber rfl rfl ?_
      refine J_getI S_X3_readNumber rfl (by assumption) (by omega) ?_
      rw [g.2.1]
      refine J_CVx S_X3_readNumber rfl rfl (by assumption) (by omega) (by simp) (hat J g s hsl) rfl ?_
      refine J_ist S_X3_readNumber rfl rfl ?_
      refine J_ild S_X3_readNumber rfl rfl ?_
      refine J_CSx S_X3_readNumber rfl rfl (by simp) (d1) rfl ?_
      refine J_if S_X3_readNumber rfl (fun c30 => ?_) (fun c30 => False.elim (c30 rfl))
      refine J_ald S_X3_readNumber rfl rfl ?_
      refine J_CV S_X3_readNumber rfl rfl (by assumption) (by omega) (by simp) (hrf J g) ?_
      rintro _ _ ⟨J2, rfl, rfl, g2⟩
      refine J_C S_X3_readNumber rfl ?_
      refine J_retI S_X3_readNumber rfl ?_
      exact ⟨J2, rfl, rfl, rx_tr g g2⟩
    · by_cases h2 : t - s ≤ 2
      · by_cases hz : t - s = 2 ∧ I 3 s = 48
        · have e : nmOk (I 3) L s t = false := by unfold nmOk; rw [decide_eq_true hz.1, decide_eq_true hz.2]; simp
          rw [e]
          refine J_ald S_X3_readNumber rfl rfl ?_
          refine J_CV S_X3_readNumber rfl rfl (by assumption) (by omega) (by simp) (hadv) ?_
          rintro _ _ ⟨J, rfl, rfl, g⟩
          have d1 := hdg J (I 3 s)
          rw [hd] at d1
          refine J_ald S_X3_readNumber rfl rfl ?_
          refine J_getI S_X3_readNumber rfl (by assumption) (by omega) ?_
          refine J_ald S_X3_readNumber rfl rfl ?_
          refine J_getI S_X3_readNumber rfl (by assumption) (by omega) ?_
          rw [g.2.1, g.2.2.1]
          refine J_bin S_X3_readNumber rfl ?_
          rw [pk_sub htL.1]
          refine J_ist S_X3_readNumber rfl rfl ?_
          refine J_ald S_X3_readNumber rfl rfl ?_
          refine J_getR S_X3_readNumber rfl (o' := 2) (by assumption) (by omega) rfl ?_
          refine J_ald S_X3_readNumber rfl rfl ?_
          refine J_getI S_X3_readNumber rfl (by assumption) (by omega) ?_
          rw [g.2.1]
          refine J_CVx S_X3_readNumber rfl rfl (by assumption) (by omega) (by simp) (hat J g s hsl) rfl ?_
          refine J_ist S_X3_readNumber rfl rfl ?_
          refine J_ild S_X3_readNumber rfl rfl ?_
          refine J_CSx S_X3_readNumber rfl rfl (by simp) (d1) rfl ?_
          refine J_if S_X3_readNumber rfl (fun c30 => False.elim (absurd c30 (by decide))) (fun c30 => ?_)
          refine J_ild S_X3_readNumber rfl rfl ?_
          refine J_C S_X3_readNumber rfl ?_
          rw [hz.1]
          refine J_cmp S_X3_readNumber rfl (fun c35 => False.elim (absurd c35 (by decide))) (fun c35 => ?_)
          refine J_ild S_X3_readNumber rfl rfl ?_
          refine J_C S_X3_readNumber rfl ?_
          refine J_cmp S_X3_readNumber rfl (fun c40 => False.elim (c40 rfl)) (fun c40 => ?_)
          refine J_ild S_X3_readNumber rfl rfl ?_
          refine J_C S_X3_readNumber rfl ?_
          refine J_cmp S_X3_readNumber rfl (fun c46 => False.elim (c46 hz.2)) (fun c46 => ?_)
          refine J_ald S_X3_readNumber rfl rfl ?_
          refine J_CV S_X3_readNumber rfl rfl (by assumption) (by omega) (by simp) (hrf J g) ?_
          rintro _ _ ⟨J2, rfl, rfl, g2⟩
          refine J_C S_X3_readNumber rfl ?_
          refine J_retI S_X3_readNumber rfl ?_
          exact ⟨J2, rfl, rfl, rx_tr g g2⟩
        · have e : nmOk (I 3) L s t = true := by
            unfold nmOk
            rw [hd, decide_eq_true hsl, decide_eq_true h2]
            by_cases a : t - s = 2
            · rw [decide_eq_false (fun c => hz ⟨a, c⟩)]; simp
            · rw [decide_eq_false a]; simp
          rw [e, if_pos rfl, flt_t]
          have h1 := hgt hsl
          by_cases h11 : t - s = 1
          · unfold nmV
            rw [if_pos h11]
            refine J_ald S_X3_readNumber rfl rfl ?_
            refine J_CV S_X3_readNumber rfl rfl (by assumption) (by omega) (by simp) (hadv) ?_
            rintro _ _ ⟨J, rfl, rfl, g⟩
            have d1 := hdg J (I 3 s)
            rw [hd] at d1
            refine J_ald S_X3_readNumber rfl rfl ?_
            refine J_getI S_X3_readNumber rfl (by assumption) (by omega) ?_
            refine J_ald S_X3_readNumber rfl rfl ?_
            refine J_getI S_X3_readNumber rfl (by assumption) (by omega) ?_
            rw [g.2.1, g.2.2.1]
            refine J_bin S_X3_readNumber rfl ?_
            rw [pk_sub htL.1]
            refine J_ist S_X3_readNumber rfl rfl ?_
            refine J_ald S_X3_readNumber rfl rfl ?_
            refine J_getR S_X3_readNumber rfl (o' := 2) (by assumption) (by omega) rfl ?_
            refine J_ald S_X3_readNumber rfl rfl ?_
            refine J_getI S_X3_readNumber rfl (by assumption) (by omega) ?_
            rw [g.2.1]
            refine J_CVx S_X3_readNumber rfl rfl (by assumption) (by omega) (by simp) (hat J g s hsl) rfl ?_
            refine J_ist S_X3_readNumber rfl rfl ?_
            refine J_ild S_X3_readNumber rfl rfl ?_
            refine J_CSx S_X3_readNumber rfl rfl (by simp) (d1) rfl ?_
            refine J_if S_X3_readNumber rfl (fun c30 => False.elim (absurd c30 (by decide))) (fun c30 => ?_)
            refine J_ild S_X3_readNumber rfl rfl ?_
            refine J_C S_X3_readNumber rfl ?_
            rw [h11]
            refine J_cmp S_X3_readNumber rfl (fun c35 => False.elim (absurd c35 (by decide))) (fun c35 => ?_)
            refine J_ild S_X3_readNumber rfl rfl ?_
            refine J_C S_X3_readNumber rfl ?_
            refine J_cmp S_X3_readNumber rfl (fun c40 => ?_) (fun c40 => False.elim (absurd c40 (by decide)))
            refine J_ild S_X3_readNumber rfl rfl ?_
            refine J_C S_X3_readNumber rfl ?_
            refine J_bin S_X3_readNumber rfl ?_
            refine J_ist S_X3_readNumber rfl rfl ?_
            refine J_ild S_X3_readNumber rfl rfl ?_
            refine J_C S_X3_readNumber rfl ?_
            refine J_cmp S_X3_readNumber rfl (fun c62 => False.elim (c62 rfl)) (fun c62 => ?_)
            refine J_ild S_X3_readNumber rfl rfl ?_
            refine J_goto S_X3_readNumber rfl ?_
            refine J_retI S_X3_readNumber rfl ?_
            exact ⟨J, rfl, rfl, g⟩
          · have h12' : t - s = 2 := by omega
            have h48 : ¬ I 3 s = 48 := fun c => hz ⟨h12', c⟩
            unfold nmV
            rw [if_neg h11]
            refine J_ald S_X3_readNumber rfl rfl ?_
            refine J_CV S_X3_readNumber rfl rfl (by assumption) (by omega) (by simp) (hadv) ?_
            rintro _ _ ⟨J, rfl, rfl, g⟩
            have d1 := hdg J (I 3 s)
            rw [hd] at d1
            refine J_ald S_X3_readNumber rfl rfl ?_
            refine J_getI S_X3_readNumber rfl (by assumption) (by omega) ?_
            refine J_ald S_X3_readNumber rfl rfl ?_
            refine J_getI S_X3_readNumber rfl (by assumption) (by omega) ?_
            rw [g.2.1, g.2.2.1]
            refine J_bin S_X3_readNumber rfl ?_
            rw [pk_sub htL.1]
            refine J_ist S_X3_readNumber rfl rfl ?_
            refine J_ald S_X3_readNumber rfl rfl ?_
            refine J_getR S_X3_readNumber rfl (o' := 2) (by assumption) (by omega) rfl ?_
            refine J_ald S_X3_readNumber rfl rfl ?_
            refine J_getI S_X3_readNumber rfl (by assumption) (by omega) ?_
            rw [g.2.1]
            refine J_CVx S_X3_readNumber rfl rfl (by assumption) (by omega) (by simp) (hat J g s hsl) rfl ?_
            refine J_ist S_X3_readNumber rfl rfl ?_
            refine J_ild S_X3_readNumber rfl rfl ?_
            refine J_CSx S_X3_readNumber rfl rfl (by simp) (d1) rfl ?_
            refine J_if S_X3_readNumber rfl (fun c30 => False.elim (absurd c30 (by decide))) (fun c30 => ?_)
            refine J_ild S_X3_readNumber rfl rfl ?_
            refine J_C S_X3_readNumber rfl ?_
            rw [h12']
            refine J_cmp S_X3_readNumber rfl (fun c35 => False.elim (absurd c35 (by decide))) (fun c35 => ?_)
            refine J_ild S_X3_readNumber rfl rfl ?_
            refine J_C S_X3_readNumber rfl ?_
            refine J_cmp S_X3_readNumber rfl (fun c40 => False.elim (c40 rfl)) (fun c40 => ?_)
            refine J_ild S_X3_readNumber rfl rfl ?_
            refine J_C S_X3_readNumber rfl ?_
            refine J_cmp S_X3_readNumber rfl (fun c46 => ?_) (fun c46 => False.elim (h48 c46))
            refine J_ild S_X3_readNumber rfl rfl ?_
            refine J_C S_X3_readNumber rfl ?_
            refine J_bin S_X3_readNumber rfl ?_
            refine J_ist S_X3_readNumber rfl rfl ?_
            refine J_ild S_X3_readNumber rfl rfl ?_
            refine J_C S_X3_readNumber rfl ?_
            refine J_cmp S_X3_readNumber rfl (fun c62 => ?_) (fun c62 => False.elim (absurd c62 (by decide)))
            refine J_ild S_X3_readNumber rfl rfl ?_
            refine J_C S_X3_readNumber rfl ?_
            refine J_bin S_X3_readNumber rfl ?_
            refine J_ald S_X3_readNumber rfl rfl ?_
            refine J_getR S_X3_readNumber rfl (o' := 2) (by assumption) (by omega) rfl ?_
            refine J_ald S_X3_readNumber rfl rfl ?_
            refine J_getI S_X3_readNumber rfl (by assumption) (by omega) ?_
            refine J_C S_X3_readNumber rfl ?_
            refine J_bin S_X3_readNumber rfl ?_
            rw [g.2.1, ← nI_succ]
            refine J_CVx S_X3_readNumber rfl rfl (by assumption) (by omega) (by simp) (hat J g (s + 1) (by omega)) rfl ?_
            refine J_bin S_X3_readNumber rfl ?_
            refine J_C S_X3_readNumber rfl ?_
            refine J_bin S_X3_readNumber rfl ?_
            refine J_retI S_X3_readNumber rfl ?_
            exact ⟨J, rfl, rfl, g⟩
      · have e : nmOk (I 3) L s t = false := by unfold nmOk; rw [decide_eq_false h2, Bool.false_and, Bool.and_false, Bool.and_false]
        rw [e]
        refine J_ald S_X3_readNumber rfl rfl ?_
        refine J_CV S_X3_readNumber rfl rfl (by assumption) (by omega) (by simp) (hadv) ?_
        rintro _ _ ⟨J, rfl, rfl, g⟩
        have d1 := hdg J (I 3 s)
        rw [hd] at d1
        refine J_ald S_X3_readNumber rfl rfl ?_
        refine J_getI S_X3_readNumber rfl (by assumption) (by omega) ?_
        refine J_ald S_X3_readNumber rfl rfl ?_
        refine J_getI S_X3_readNumber rfl (by assumption) (by omega) ?_
        rw [g.2.1, g.2.2.1]
        refine J_bin S_X3_readNumber rfl ?_
        rw [pk_sub htL.1]
        refine J_ist S_X3_readNumber rfl rfl ?_
        refine J_ald S_X3_readNumber rfl rfl ?_
        refine J_getR S_X3_readNumber rfl (o' := 2) (by assumption) (by omega) rfl ?_
        refine J_ald S_X3_readNumber rfl rfl ?_
        refine J_getI S_X3_readNumber rfl (by assumption) (by omega) ?_
        rw [g.2.1]
        refine J_CVx S_X3_readNumber rfl rfl (by assumption) (by omega) (by simp) (hat J g s hsl) rfl ?_
        refine J_ist S_X3_readNumber rfl rfl ?_
        refine J_ild S_X3_readNumber rfl rfl ?_
        refine J_CSx S_X3_readNumber rfl rfl (by simp) (d1) rfl ?_
        refine J_if S_X3_readNumber rfl (fun c30 => False.elim (absurd c30 (by decide))) (fun c30 => ?_)
        refine J_ild S_X3_readNumber rfl rfl ?_
        refine J_C S_X3_readNumber rfl ?_
        refine J_cmp S_X3_readNumber rfl (fun c35 => ?_) (fun c35 => False.elim (c35 (nI_lt (a := 2) (by omega) (by omega))))
        refine J_ald S_X3_readNumber rfl rfl ?_
        refine J_CV S_X3_readNumber rfl rfl (by assumption) (by omega) (by simp) (hrf J g) ?_
        rintro _ _ ⟨J2, rfl, rfl, g2⟩
        refine J_C S_X3_readNumber rfl ?_
        refine J_retI S_X3_readNumber rfl ?_
        exact ⟨J2, rfl, rfl, rx_tr g g2⟩
  · have e : nmOk (I 3) L s t = false := by unfold nmOk; rw [decide_eq_false hsl, Bool.false_and]
    rw [e]
    refine J_ald S_X3_readNumber rfl rfl ?_
    refine J_CV S_X3_readNumber rfl rfl (by assumption) (by omega) (by simp) (hadv) ?_
    rintro _ _ ⟨J, rfl, rfl, g⟩
    have d1 := hdg J 0
    refine J_ald S_X3_readNumber rfl rfl ?_
    refine J_getI S_X3_readNumber rfl (by assumption) (by omega) ?_
    refine J_ald S_X3_readNumber rfl rfl ?_
    refine J_getI S_X3_readNumber rfl (by assumption) (by omega) ?_
    rw [g.2.1, g.2.2.1]
    refine J_bin S_X3_readNumber rfl ?_
    rw [pk_sub htL.1]
    refine J_ist S_X3_readNumber rfl rfl ?_
    refine J_ald S_X3_readNumber rfl rfl ?_
    refine J_getR S_X3_readNumber rfl (o' := 2) (by assumption) (by omega) rfl ?_
    refine J_ald S_X3_readNumber rfl rfl ?_
    refine J_getI S_X3_readNumber rfl (by assumption) (by omega) ?_
    rw [g.2.1]
    refine J_CVx S_X3_readNumber rfl rfl (by assumption) (by omega) (by simp) (ha0 J g s (by omega) (by omega)) rfl ?_
    refine J_ist S_X3_readNumber rfl rfl ?_
    refine J_ild S_X3_readNumber rfl rfl ?_
    refine J_CSx S_X3_readNumber rfl rfl (by simp) (d1) rfl ?_
    refine J_if S_X3_readNumber rfl (fun c30 => ?_) (fun c30 => False.elim (c30 rfl))
    refine J_ald S_X3_readNumber rfl rfl ?_
    refine J_CV S_X3_readNumber rfl rfl (by assumption) (by omega) (by simp) (hrf J g) ?_
    rintro _ _ ⟨J2, rfl, rfl, g2⟩
    refine J_C S_X3_readNumber rfl ?_
    refine J_retI S_X3_readNumber rfl ?_
    exact ⟨J2, rfl, rfl, rx_tr g g2⟩
end Cs
