/-! what a reading without a fault gives -/
theorem isD_n {x : Int32} (h : isD x = true) : ∃ d, d ≤ 9 ∧ x = nI (48 + d) := by
  unfold isD at h
  rw [Bool.and_eq_true, decide_eq_true_eq, decide_eq_true_eq] at h
  obtain ⟨j, hj, rfl⟩ := i_rng (n := 57) (by decide) (Int32.le_trans (show (0 : Int32) ≤ 48 by decide) h.1) h.2
  have h1 := (nI_leI (a := 48) (by decide) (by omega)).mp h.1
  exact ⟨j - 48, by omega, congrArg nI (by omega)⟩
theorem nm_rg {f : Nat → Int32} {L s : Nat} (h : nmOk f L s (tkn f L s) = true) : ∃ n, n ≤ 99 ∧ nmV f s (tkn f L s) = nI n := by
  unfold nmOk at h
  rw [Bool.and_eq_true, Bool.and_eq_true, Bool.and_eq_true, decide_eq_true_eq, decide_eq_true_eq] at h
  obtain ⟨hs, hd, h2, -⟩ := h
  have hg := tkn_gt f hs
  obtain ⟨d, hd9, e⟩ := isD_n hd
  unfold nmV
  by_cases c : tkn f L s - s = 1
  · rw [if_pos c, e, show (48 : Int32) = nI 48 from rfl, pk_sub (by omega)]
    exact ⟨d, by omega, congrArg nI (by omega)⟩
  · rw [if_neg c]
    have hr := run_d hs hd
    have hin := rnE_in (fun j => isD (f j)) (L - s) s (s + 1) (by omega) (by
      show s + 1 < dR f L s
      rw [hr]; omega)
    obtain ⟨d', hd9', e'⟩ := isD_n hin
    rw [e, e', show (48 : Int32) = nI 48 from rfl, show (10 : Int32) = nI 10 from rfl, pk_sub (by omega), pk_mul, nI_add, pk_sub (by omega)]
    exact ⟨(48 + d - 48) * 10 + (48 + d') - 48, by omega, rfl⟩
section Rk
variable {f : Nat → Int32} {L : Nat}
theorem rdm_ok {p : Nat} {y : Int32} (hL : L ≤ 40) (hp : p ≤ L) (h : RDM f L p (-1) y) : ∃ n, n ≤ 99 ∧ y = nI n := by
  have hs := sktk_le f hp
  unfold RDM at h
  split at h <;> rename_i c
  · rw [h.1]; exact nm_rg c
  · exact absurd h.symm (nI_nm1 (by omega))
theorem rdd_ok {k p : Nat} {y : Int32} (hL : L ≤ 40) (hp : p ≤ L) (h : RDD f L k p (-1) y) : ∃ n, n ≤ 99 ∧ y = nI n := by
  have hs := sktk_le f hp
  unfold RDD at h
  split at h <;> rename_i c
  · exact rdm_ok hL hp h
  · split at h <;> rename_i d
    · exact rdm_ok hL hs.2.2 h
    · exact absurd h.symm (nI_nm1 (by omega))
theorem rdn_ok {k p : Nat} {x y : Int32} (hL : L ≤ 40) (hp : p ≤ L) (h : RDN f L k p (-1) x y) : (∃ n, n ≤ 99 ∧ x = nI n) ∧ ∃ n, n ≤ 99 ∧ y = nI n := by
  have hs := sktk_le f hp
  unfold RDN at h
  split at h <;> rename_i c
  · exact ⟨by rw [h.1]; exact nm_rg c, rdd_ok hL hs.2.2 h.2⟩
  · exact absurd h.symm (nI_nm1 (by omega))
theorem rds_ok {k a x y : Int32} (hL : L ≤ 40) (h : RDS f L (-1) k a x y) : ∃ N, N ≤ 4 ∧ k = nI N ∧ (a = 0 ∨ a = 1) ∧ (3 ≤ N → a = 0) ∧ (∃ n, n ≤ 99 ∧ x = nI n) ∧ ∃ n, n ≤ 99 ∧ y = nI n := by
  have hs := sktk_le f (Nat.zero_le L)
  have hk := kdR_le f (sk f L 0) (tk f L 0) 5 0
  unfold RDS at h
  split at h <;> rename_i c
  · exact absurd h.symm (nI_nm1 (by omega))
  · obtain ⟨h1, h2⟩ := h
    have hN : kdN f (sk f L 0) (tk f L 0) ≤ 5 := by unfold kdN; omega
    refine ⟨_, by omega, h1, ?_⟩
    unfold RDT at h2
    have hs2 := sktk_le f hs.2.2
    split at h2 <;> rename_i c3
    · split at h2 <;> rename_i d
      · refine ⟨?_, fun g => by omega, rdn_ok hL hs2.2.2 h2.2⟩
        rw [h2.1]
        split
        · exact Or.inl rfl
        · exact Or.inr rfl
      · exact absurd h2.symm (nI_nm1 (by omega))
    · exact ⟨Or.inl h2.1, fun _ => h2.1, rdn_ok hL hs.2.2 h2.2⟩
theorem rds_ex (hL : L ≤ 40) : ∃ e k a x y, RDS f L e k a x y := by
  have hs := sktk_le f (Nat.zero_le L)
  by_cases c : kdN f (sk f L 0) (tk f L 0) = 5
  · refine ⟨nI (sk f L 0), 0, 0, 0, 0, ?_⟩
    unfold RDS
    rw [if_pos c]
  · have g := fe_T (f := f) (k := kdN f (sk f L 0) (tk f L 0)) hL hs.2.2
    have hR : RDS f L (cT f L (kdN f (sk f L 0) (tk f L 0)) (tk f L 0) (-1)) (nI (kdN f (sk f L 0) (tk f L 0))) (aTb f L (kdN f (sk f L 0) (tk f L 0)) (tk f L 0)) (yM f L (pT f L (kdN f (sk f L 0) (tk f L 0)) (tk f L 0))) (yD f L (kdN f (sk f L 0) (tk f L 0)) (tk f L (pT f L (kdN f (sk f L 0) (tk f L 0)) (tk f L 0)))) := by
      unfold RDS
      rw [if_neg c]
      exact ⟨rfl, g⟩
    exact ⟨_, _, _, _, _, hR⟩
theorem rds_e {e k a x y : Int32} (hL : L ≤ 40) (h : RDS f L e k a x y) : e = -1 ∨ ∃ n, n ≤ 40 ∧ e = nI n := by
  have hs := sktk_le f (Nat.zero_le L)
  unfold RDS at h
  split at h
  · exact Or.inr ⟨_, by omega, h⟩
  · obtain ⟨-, h⟩ := h
    have hE : ∀ p, p ≤ L → RDE f L p e → e = -1 ∨ ∃ n, n ≤ 40 ∧ e = nI n := by
      intro p hp g
      have hs := sktk_le f hp
      unfold RDE at g
      split at g
      · exact Or.inr ⟨_, by omega, g⟩
      · exact Or.inl g
    have hM : ∀ p, p ≤ L → RDM f L p e y → e = -1 ∨ ∃ n, n ≤ 40 ∧ e = nI n := by
      intro p hp g
      have hs := sktk_le f hp
      unfold RDM at g
      split at g
      · exact hE _ hs.2.2 g.2
      · exact Or.inr ⟨_, by omega, g⟩
    have hD : ∀ k p, p ≤ L → RDD f L k p e y → e = -1 ∨ ∃ n, n ≤ 40 ∧ e = nI n := by
      intro k p hp g
      have hs := sktk_le f hp
      unfold RDD at g
      split at g
      · exact hM _ hp g
      · split at g
        · exact hM _ hs.2.2 g
        · exact Or.inr ⟨_, by omega, g⟩
    have hN : ∀ k p, p ≤ L → RDN f L k p e x y → e = -1 ∨ ∃ n, n ≤ 40 ∧ e = nI n := by
      intro k p hp g
      have hs := sktk_le f hp
      unfold RDN at g
      split at g
      · exact hD _ _ hs.2.2 g.2
      · exact Or.inr ⟨_, by omega, g⟩
    have hs2 := sktk_le f hs.2.2
    unfold RDT at h
    split at h
    · split at h
      · exact hN _ _ hs2.2.2 h.2
      · exact Or.inr ⟨_, by omega, h⟩
    · exact hN _ _ hs.2.2 h.2
end Rk
def mayD (v : mv) (kd x y : Int32) : Bool := if kd = 4 then (!decide (x = y)) && (isV v x && isV v y) else decide (x ≤ y) && decide (y < 12)
theorem okD_of {v : mv} {f : Nat → Int32} {L : Nat} {kd tb x y : Int32} (hL : L ≤ 40) (h : RDS f L (-1) kd tb x y) (hm : mayD v kd x y = true) (hI : IV v) : okD v kd tb x y := by
  obtain ⟨N, hN, rfl, h1, h2, ⟨a, ha, rfl⟩, ⟨b, hb, rfl⟩⟩ := rds_ok hL h
  unfold mayD at hm
  have htb : rg tb 1 := by
    rcases h1 with rfl | rfl
    · exact rg_nI (n := 0) (by decide) (by decide)
    · exact rg_nI (n := 1) (by decide) (by decide)
  refine ⟨rg_nI hN (by decide), htb, fun g => h2 ((nI_leI (a := 3) (by decide) (by omega)).mp g), ?_⟩
  by_cases c : nI N = 4
  · rw [if_pos c, Bool.and_eq_true, Bool.and_eq_true] at hm
    obtain ⟨m1, m2, m3⟩ := hm
    obtain ⟨-, b1, -, -⟩ := isV_e hI m2
    obtain ⟨-, b2, -, -⟩ := isV_e hI m3
    rw [tn_nI (by omega)] at b1 b2
    refine ⟨rg_nI (by omega) (by decide), rg_nI (by omega) (by decide), fun _ => ⟨?_, m2, m3⟩, fun g => absurd c g⟩
    intro g
    rw [decide_eq_true g] at m1
    cases m1
  · rw [if_neg c, Bool.and_eq_true, decide_eq_true_eq, decide_eq_true_eq] at hm
    have m1 := (nI_leI (by omega) (by omega)).mp hm.1
    have m2 := (nI_ltI (b := 12) (by omega) (by decide)).mp hm.2
    refine ⟨rg_nI (by omega) (by decide), rg_nI (by omega) (by decide), fun g => absurd g c, fun _ => ?_⟩
    rw [tn_nI (by omega), tn_nI (by omega)]
    exact m1
section P9
variable {I : mj_I}
/-- behind a reading -/
theorem sc_rd {I1 : mj_I} (h : ∀ o, o ≠ 1 → I1 o = I o) : SC I I1 := ⟨fun q _ g => h q g, fun q g => h q (by omega)⟩
theorem C_X3_hasFault : mj_R D_X3_hasFault [.inr (some 1)] (mj_w I) (mj_ex (some (.inl (if I 1 3 = -1 then 0 else 1))) I) := by
  have m1 := s_1
  refine mj_enter (by decide +kernel) (Nat.le_of_ble_eq_true rfl) ?_
  by_cases c : I 1 3 = -1
  · rw [if_pos c]
    refine J_ald S_X3_hasFault rfl rfl ?_
    refine J_getI S_X3_hasFault rfl (by assumption) (by omega) ?_
    refine J_C S_X3_hasFault rfl ?_
    refine J_cmp S_X3_hasFault rfl (fun c5 => ?_) (fun c5 => False.elim (c5 c))
    refine J_C S_X3_hasFault rfl ?_
    refine J_retZ S_X3_hasFault rfl (by decide) ?_
    exact ⟨rfl, rfl⟩
  · rw [if_neg c]
    refine J_ald S_X3_hasFault rfl rfl ?_
    refine J_getI S_X3_hasFault rfl (by assumption) (by omega) ?_
    refine J_C S_X3_hasFault rfl ?_
    refine J_cmp S_X3_hasFault rfl (fun c5 => False.elim (c c5)) (fun c5 => ?_)
    refine J_C S_X3_hasFault rfl ?_
    refine J_goto S_X3_hasFault rfl ?_
    refine J_retZ S_X3_hasFault rfl (by decide) ?_
    exact ⟨rfl, rfl⟩
theorem X9_define_fault {w p : mv} {o n L : Nat} {f : Nat → Int32} (hc : CR I w p o n L f) {e kd tb x y : Int32} (hS : RDS f L e kd tb x y) (he : ¬ e = -1) : mj_R D_X9_define [.inr (some 0)] (mj_w I) (mj_px (fun r I1 => r = some (.inl (-1000 - e)) ∧ SC I I1)) := by
  have m0 := s_0
  have m1 := s_1
  have hrd := C_X3_read (I := I) hc.2.2.1 hc.2.2.2.1
  rw [hc.2.2.2.2] at hrd
  have hhf := fun (J : mj_I) (hj : J 1 3 = e) => (show mj_R D_X3_hasFault [.inr (some 1)] (mj_w J) (mj_ex (some (.inl 1)) J) from by
    have g := C_X3_hasFault (I := J)
    rw [hj, if_neg he] at g
    exact g)
  refine mj_enter (by decide +kernel) (Nat.le_of_ble_eq_true rfl) ?_
  refine J_ald S_X9_define rfl rfl ?_
  refine J_getR S_X9_define rfl (o' := 1) (by assumption) (by omega) rfl ?_
  refine J_CV S_X9_define rfl rfl (by assumption) (by omega) (by simp) (hrd) ?_
  rintro _ _ ⟨I1, rfl, rfl, g1, g2⟩
  have e3 := (rds_one hc.2.2.1 g2 hS).1
  refine J_ald S_X9_define rfl rfl ?_
  refine J_getR S_X9_define rfl (o' := 1) (by assumption) (by omega) rfl ?_
  refine J_CVx S_X9_define rfl rfl (by assumption) (by omega) (by simp) (hhf I1 e3) rfl ?_
  refine J_if S_X9_define rfl (fun c14 => False.elim (absurd c14 (by decide))) (fun c14 => ?_)
  refine J_C S_X9_define rfl ?_
  refine J_ald S_X9_define rfl rfl ?_
  refine J_getR S_X9_define rfl (o' := 1) (by assumption) (by omega) rfl ?_
  refine J_getI S_X9_define rfl (by assumption) (by omega) ?_
  refine J_bin S_X9_define rfl ?_
  refine J_retI S_X9_define rfl ?_
  rw [e3]; exact ⟨I1, rfl, rfl, sc_rd g1⟩
theorem X9_define_no {w p : mv} {o n L : Nat} {f : Nat → Int32} (hc : CR I w p o n L f) {kd tb x y : Int32} (hS : RDS f L (-1) kd tb x y) (hm : mayD w kd x y = false) : mj_R D_X9_define [.inr (some 0)] (mj_w I) (mj_px (fun r I1 => r = some (.inl (-100000001)) ∧ SC I I1)) := by
  have m0 := s_0
  have m1 := s_1
  have m4 := mj_S4.1
  have m5 := mj_B5.1
  have hrd := C_X3_read (I := I) hc.2.2.1 hc.2.2.2.1
  rw [hc.2.2.2.2] at hrd
  have hhf := fun (J : mj_I) (hj : J 1 3 = -1) => (show mj_R D_X3_hasFault [.inr (some 1)] (mj_w J) (mj_ex (some (.inl 0)) J) from by
    have g := C_X3_hasFault (I := J)
    rw [hj, if_pos rfl] at g
    exact g)
  have hal := fun (J : mj_I) (h : SC I J) => (show mj_R D_X0_allows [.inr (some 5), .inl kd, .inl x, .inl y] (mj_w J) (mj_ex (some (.inl (bi (mayD w kd x y)))) J) from C_X0_allows mj_B5 (CR_sc hc h).1.1 hc.1.2.1)
  rw [hm] at hal
  refine mj_enter (by decide +kernel) (Nat.le_of_ble_eq_true rfl) ?_
  refine J_ald S_X9_define rfl rfl ?_
  refine J_getR S_X9_define rfl (o' := 1) (by assumption) (by omega) rfl ?_
  refine J_CV S_X9_define rfl rfl (by assumption) (by omega) (by simp) (hrd) ?_
  rintro _ _ ⟨I1, rfl, rfl, g1, g2⟩
  obtain ⟨e3, q⟩ := rds_one hc.2.2.1 g2 hS
  obtain ⟨q1, q2, q3, q4⟩ := q e3
  refine J_ald S_X9_define rfl rfl ?_
  refine J_getR S_X9_define rfl (o' := 1) (by assumption) (by omega) rfl ?_
  refine J_CVx S_X9_define rfl rfl (by assumption) (by omega) (by simp) (hhf I1 e3) rfl ?_
  refine J_if S_X9_define rfl (fun c14 => ?_) (fun c14 => False.elim (c14 rfl))
  refine J_ald S_X9_define rfl rfl ?_
  refine J_getR S_X9_define rfl (o' := 4) (by assumption) (by omega) rfl ?_
  refine J_getR S_X9_define rfl (o' := 5) (by assumption) (by omega) rfl ?_
  refine J_ast S_X9_define rfl rfl ?_
  refine J_ald S_X9_define rfl rfl ?_
  refine J_ald S_X9_define rfl rfl ?_
  refine J_getR S_X9_define rfl (o' := 1) (by assumption) (by omega) rfl ?_
  refine J_getI S_X9_define rfl (by assumption) (by omega) ?_
  refine J_ald S_X9_define rfl rfl ?_
  refine J_getR S_X9_define rfl (o' := 1) (by assumption) (by omega) rfl ?_
  refine J_getI S_X9_define rfl (by assumption) (by omega) ?_
  refine J_ald S_X9_define rfl rfl ?_
  refine J_getR S_X9_define rfl (o' := 1) (by assumption) (by omega) rfl ?_
  refine J_getI S_X9_define rfl (by assumption) (by omega) ?_
  rw [q1, q3, q4]
  refine J_CVx S_X9_define rfl rfl (by assumption) (by omega) (by simp) (hal I1 (sc_rd g1)) rfl ?_
  refine J_if S_X9_define rfl (fun c62 => False.elim (c62 rfl)) (fun c62 => ?_)
  refine J_C S_X9_define rfl ?_
  refine J_retI S_X9_define rfl ?_
  exact ⟨I1, rfl, rfl, sc_rd g1⟩
theorem X9_define_full {w p : mv} {o n L : Nat} {f : Nat → Int32} (hc : CR I w p o n L f) {kd tb x y : Int32} (hS : RDS f L (-1) kd tb x y) (hm : mayD w kd x y = true) (hd : tn (w 1) = 8) : mj_R D_X9_define [.inr (some 0)] (mj_w I) (mj_px (fun r I1 => r = some (.inl (-100000003)) ∧ SC I I1)) := by
  have m0 := s_0
  have m1 := s_1
  have m4 := mj_S4.1
  have m5 := mj_B5.1
  have hrd := C_X3_read (I := I) hc.2.2.1 hc.2.2.2.1
  rw [hc.2.2.2.2] at hrd
  have hhf := fun (J : mj_I) (hj : J 1 3 = -1) => (show mj_R D_X3_hasFault [.inr (some 1)] (mj_w J) (mj_ex (some (.inl 0)) J) from by
    have g := C_X3_hasFault (I := J)
    rw [hj, if_pos rfl] at g
    exact g)
  have hal := fun (J : mj_I) (h : SC I J) => (show mj_R D_X0_allows [.inr (some 5), .inl kd, .inl x, .inl y] (mj_w J) (mj_ex (some (.inl (bi (mayD w kd x y)))) J) from C_X0_allows mj_B5 (CR_sc hc h).1.1 hc.1.2.1)
  rw [hm] at hal
  have e54 : I 5 4 = 8 := by rw [show I 5 4 = w 1 from hc.1.1.2.1 0 (by decide), hc.1.2.1.2.1.1, hd]; rfl
  refine mj_enter (by decide +kernel) (Nat.le_of_ble_eq_true rfl) ?_
  refine J_ald S_X9_define rfl rfl ?_
  refine J_getR S_X9_define rfl (o' := 1) (by assumption) (by omega) rfl ?_
  refine J_CV S_X9_define rfl rfl (by assumption) (by omega) (by simp) (hrd) ?_
  rintro _ _ ⟨I1, rfl, rfl, g1, g2⟩
  obtain ⟨e3, q⟩ := rds_one hc.2.2.1 g2 hS
  obtain ⟨q1, q2, q3, q4⟩ := q e3
  refine J_ald S_X9_define rfl rfl ?_
  refine J_getR S_X9_define rfl (o' := 1) (by assumption) (by omega) rfl ?_
  refine J_CVx S_X9_define rfl rfl (by assumption) (by omega) (by simp) (hhf I1 e3) rfl ?_
  refine J_if S_X9_define rfl (fun c14 => ?_) (fun c14 => False.elim (c14 rfl))
  refine J_ald S_X9_define rfl rfl ?_
  refine J_getR S_X9_define rfl (o' := 4) (by assumption) (by omega) rfl ?_
  refine J_getR S_X9_define rfl (o' := 5) (by assumption) (by omega) rfl ?_
  refine J_ast S_X9_define rfl rfl ?_
  refine J_ald S_X9_define rfl rfl ?_
  refine J_ald S_X9_define rfl rfl ?_
  refine J_getR S_X9_define rfl (o' := 1) (by assumption) (by omega) rfl ?_
  refine J_getI S_X9_define rfl (by assumption) (by omega) ?_
  refine J_ald S_X9_define rfl rfl ?_
  refine J_getR S_X9_define rfl (o' := 1) (by assumption) (by omega) rfl ?_
  refine J_getI S_X9_define rfl (by assumption) (by omega) ?_
  refine J_ald S_X9_define rfl rfl ?_
  refine J_getR S_X9_define rfl (o' := 1) (by assumption) (by omega) rfl ?_
  refine J_getI S_X9_define rfl (by assumption) (by omega) ?_
  rw [q1, q3, q4]
  refine J_CVx S_X9_define rfl rfl (by assumption) (by omega) (by simp) (hal I1 (sc_rd g1)) rfl ?_
  refine J_if S_X9_define rfl (fun c62 => ?_) (fun c62 => False.elim (absurd c62 (by decide)))
  refine J_ald S_X9_define rfl rfl ?_
  refine J_getI S_X9_define rfl (by assumption) (by omega) ?_
  refine J_C S_X9_define rfl ?_
  rw [g1 5 (by decide), e54]
  refine J_cmp S_X9_define rfl (fun c74 => False.elim (absurd c74 (by decide))) (fun c74 => ?_)
  refine J_C S_X9_define rfl ?_
  refine J_retI S_X9_define rfl ?_
  exact ⟨I1, rfl, rfl, sc_rd g1⟩
theorem X9_define_ok {w p : mv} {o n L : Nat} {f : Nat → Int32} (hc : CR I w p o n L f) {kd tb x y : Int32} (hS : RDS f L (-1) kd tb x y) (hm : mayD w kd x y = true) (hd : tn (w 1) < 8) : mj_R D_X9_define [.inr (some 0)] (mj_w I) (mj_px (fun r I4 => r = some (.inl (nI (tn (w 1)))) ∧ CR I4 (defV w kd tb x y) (ntP n p w) ((o + ntD n) % 5) (ntM n + 1) 0 f ∧ UP I I4)) := by
  have m0 := s_0
  have m1 := s_1
  have m2 := s_2
  have m4 := mj_S4.1
  have m5 := mj_B5.1
  have m52 := s_52
  have hI := hc.1.2.1
  have hOK := okD_of hc.2.2.1 hS hm hI
  have hrd := C_X3_read (I := I) hc.2.2.1 hc.2.2.2.1
  rw [hc.2.2.2.2] at hrd
  have hhf := fun (J : mj_I) (hj : J 1 3 = -1) => (show mj_R D_X3_hasFault [.inr (some 1)] (mj_w J) (mj_ex (some (.inl 0)) J) from by
    have g := C_X3_hasFault (I := J)
    rw [hj, if_pos rfl] at g
    exact g)
  have hal := fun (J : mj_I) (h : SC I J) => (show mj_R D_X0_allows [.inr (some 5), .inl kd, .inl x, .inl y] (mj_w J) (mj_ex (some (.inl (bi (mayD w kd x y)))) J) from C_X0_allows mj_B5 (CR_sc hc h).1.1 hc.1.2.1)
  rw [hm] at hal
  have e54 : I 5 4 = nI (tn (w 1)) := by rw [← hI.2.1.1]; exact hc.1.1.2.1 0 (by decide)
  have hrec := fun (J : mj_I) (h : SC I J) => Z_rec (CR_sc hc h)
  have hadd := fun (J : mj_I) (h : RB J 5 w) => C_X0_addView (I := mj_up J 2 1 0) mj_B5 (RB_fr (I := J) (fun o h1 h2 => mj_up_ne (by omega)) h) hI hd hOK
  refine mj_enter (by decide +kernel) (Nat.le_of_ble_eq_true rfl) ?_
  refine J_ald S_X9_define rfl rfl ?_
  refine J_getR S_X9_define rfl (o' := 1) (by assumption) (by omega) rfl ?_
  refine J_CV S_X9_define rfl rfl (by assumption) (by omega) (by simp) (hrd) ?_
  rintro _ _ ⟨I1, rfl, rfl, g1, g2⟩
  obtain ⟨e3, q⟩ := rds_one hc.2.2.1 g2 hS
  obtain ⟨q1, q2, q3, q4⟩ := q e3
  refine J_ald S_X9_define rfl rfl ?_
  refine J_getR S_X9_define rfl (o' := 1) (by assumption) (by omega) rfl ?_
  refine J_CVx S_X9_define rfl rfl (by assumption) (by omega) (by simp) (hhf I1 e3) rfl ?_
  refine J_if S_X9_define rfl (fun c14 => ?_) (fun c14 => False.elim (c14 rfl))
  refine J_ald S_X9_define rfl rfl ?_
  refine J_getR S_X9_define rfl (o' := 4) (by assumption) (by omega) rfl ?_
  refine J_getR S_X9_define rfl (o' := 5) (by assumption) (by omega) rfl ?_
  refine J_ast S_X9_define rfl rfl ?_
  refine J_ald S_X9_define rfl rfl ?_
  refine J_ald S_X9_define rfl rfl ?_
  refine J_getR S_X9_define rfl (o' := 1) (by assumption) (by omega) rfl ?_
  refine J_getI S_X9_define rfl (by assumption) (by omega) ?_
  refine J_ald S_X9_define rfl rfl ?_
  refine J_getR S_X9_define rfl (o' := 1) (by assumption) (by omega) rfl ?_
  refine J_getI S_X9_define rfl (by assumption) (by omega) ?_
  refine J_ald S_X9_define rfl rfl ?_
  refine J_getR S_X9_define rfl (o' := 1) (by assumption) (by omega) rfl ?_
  refine J_getI S_X9_define rfl (by assumption) (by omega) ?_
  rw [q1, q3, q4]
  refine J_CVx S_X9_define rfl rfl (by assumption) (by omega) (by simp) (hal I1 (sc_rd g1)) rfl ?_
  refine J_if S_X9_define rfl (fun c62 => ?_) (fun c62 => False.elim (absurd c62 (by decide)))
  refine J_ald S_X9_define rfl rfl ?_
  refine J_getI S_X9_define rfl (by assumption) (by omega) ?_
  refine J_C S_X9_define rfl ?_
  rw [g1 5 (by decide), e54]
  refine J_cmp S_X9_define rfl (fun c74 => ?_) (fun c74 => False.elim (c74 (nI_lt (b := 8) hd (by decide))))
  refine J_ald S_X9_define rfl rfl ?_
  refine J_getR S_X9_define rfl (o' := 52) (by assumption) (by omega) rfl ?_
  refine J_ald S_X9_define rfl rfl ?_
  refine J_getR S_X9_define rfl (o' := 4) (by assumption) (by omega) rfl ?_
  refine J_CV S_X9_define rfl rfl (by assumption) (by omega) (by simp) (hrec I1 (sc_rd g1)) ?_
  rintro _ _ ⟨I2, rfl, rfl, hr⟩
  have hS2 := RC_R (CR_sc hc (sc_rd g1)) hr
  refine J_ald S_X9_define rfl rfl ?_
  refine J_getR S_X9_define rfl (o' := 1) (by assumption) (by omega) rfl ?_
  refine J_getR S_X9_define rfl (o' := 2) (by assumption) (by omega) rfl ?_
  refine J_CVx S_X9_define rfl rfl (by assumption) (by omega) (by simp) (C_X7_empty) rfl ?_
  refine J_ald S_X9_define rfl rfl ?_
  refine J_ald S_X9_define rfl rfl ?_
  refine J_getR S_X9_define rfl (o' := 1) (by assumption) (by omega) rfl ?_
  refine J_getI S_X9_define rfl (by assumption) (by omega) ?_
  refine J_ald S_X9_define rfl rfl ?_
  refine J_getR S_X9_define rfl (o' := 1) (by assumption) (by omega) rfl ?_
  refine J_getI S_X9_define rfl (by assumption) (by omega) ?_
  refine J_ald S_X9_define rfl rfl ?_
  refine J_getR S_X9_define rfl (o' := 1) (by assumption) (by omega) rfl ?_
  refine J_getI S_X9_define rfl (by assumption) (by omega) ?_
  refine J_ald S_X9_define rfl rfl ?_
  refine J_getR S_X9_define rfl (o' := 1) (by assumption) (by omega) rfl ?_
  refine J_getI S_X9_define rfl (by assumption) (by omega) ?_
  rw [mj_up_ne (show (1 : Nat) ≠ 2 by decide), hr.1 1 (by decide), q1, q2, q3, q4]
  refine J_CV S_X9_define rfl rfl (by assumption) (by omega) (by simp) (hadd I2 hS2.1) ?_
  rintro _ _ ⟨I4, rfl, rfl, a1, a2⟩
  refine J_retI S_X9_define rfl ?_
  refine ⟨I4, rfl, rfl, ⟨?_, RH_fr hr.2 (fun q h1 h2 => by rw [a2 q (by omega), mj_up_ne (by omega)]), by decide, ?_, ?_⟩, fun q hq => by rw [a2 q (by omega), mj_up_ne (by omega), hr.1 q (by omega), g1 q (by omega)]⟩
  · exact RS_bk (RS_fr hS2 (fun q h1 h2 => mj_up_ne (x := 0) (k := 1) (o := 2) (by omega))) a1 (def_I hI hd hOK) (def_Z hc.1.2.2.1) (fun i hi => def_h hd hi) a2
  · rw [a2 2 (by omega), mj_up_eq, up_s]; exact nI_0.symm
  · rw [a2 3 (by omega), mj_up_ne (by decide), hr.1 3 (by omega), g1 3 (by decide)]; exact hc.2.2.2.2
/-! the reference -/
theorem ms_mb {J : mj_I} (h : MB I J) : Ms I J := ⟨fun o a _ _ _ _ => h.1 o a, h.2 2 (by decide), h.2 4 (by decide)⟩
/-- noted and named anew -/
def MD (n : Nat) (I I' : mj_I) (w' : mv) : Prop := (∀ q, q ≠ 313 → q ≠ 314 → q ≠ 315 → I' q = I q) ∧ I' 314 = w' ∧ (∃ d m, NT n d m (I 315) (I 314) (I' 315) ∧ I' 313 2 = nI (m + 1)) ∧ I' 313 4 = 0
theorem md_up {n : Nat} {I1 : mj_I} {w : mv} {i : Nat} {x : Int32} (h : MD n I I1 w) : MD n I (mj_up I1 314 i x) (upd w i x) := by
  obtain ⟨h1, h2, ⟨d, m, h3, h4⟩, h5⟩ := h
  exact ⟨fun q a b c => by rw [mj_up_ne b]; exact h1 q a b c, by rw [mj_up_eq, h2], ⟨d, m, by rw [mj_up_ne (by decide)]; exact h3, by rw [mj_up_ne (by decide)]; exact h4⟩, by rw [mj_up_ne (by decide)]; exact h5⟩
end P9
