/-! what a reading without a fault gives -/
theorem isD_n {x : Int32} (h : isD x = true) : ∃ d, d ≤ 9 ∧ x = nI (48 + d) := by
  unfold isD at h
  rw [Bool.and_eq_true, decide_eq_true_eq, decide_eq_true_eq] at h
  obtain ⟨j, hj, rfl⟩ := i_rng (n := 57) (by decide) (Int32.le_trans (show (0 : Int32) ≤ 48 by decide) h.1) h.2
  have h1 := (nI_leI (a := 48) (by decide) (by omega)).mp h.1
  exact ⟨j - 48, by omega, congrArg nI (by omega)⟩
theorem nm_rg {f : Nat → Int32} {L s : Nat} (h : nmOk f L s (tkn f L s) = true) : ∃ n, n ≤ 99 ∧ nmV f s (tkn f L s) = nI n := by
  unfold nmOk at h
  rw [Bool.and_eq_true, Bool.and_eq_true, Bool.and_eq_true, decide_eq_true_eq, decide_eq_true_eq] at h
  obtain ⟨hs, hd, h2, -⟩ := h
  have hg := tkn_gt f hs
  obtain ⟨d, hd9, e⟩ := isD_n hd
  unfold nmV
  by_cases c : tkn f L s - s = 1
  · rw [if_pos c, e, show (48 : Int32) = nI 48 from rfl, pk_sub (by omega)]
    exact ⟨d, by omega, congrArg nI (by omega)⟩
  · rw [if_neg c]
    have hr := run_d hs hd
    have hin := rnE_in (fun j => isD (f j)) (L - s) s (s + 1) (by omega) (by
      show s + 1 < dR f L s
      rw [hr]; omega)
    obtain ⟨d', hd9', e'⟩ := isD_n hin
    rw [e, e', show (48 : Int32) = nI 48 from rfl, show (10 : Int32) = nI 10 from rfl, pk_sub (by omega), pk_mul, nI_add, pk_sub (by omega)]
    exact ⟨(48 + d - 48) * 10 + (48 + d') - 48, by omega, rfl⟩
section Rk
variable {f : Nat → Int32} {L : Nat}
theorem rdm_ok {p : Nat} {y : Int32} (hL : L ≤ 40) (hp : p ≤ L) (h : RDM f L p (-1) y) : ∃ n, n ≤ 99 ∧ y = nI n := by
  have hs := sktk_le f hp
  unfold RDM at h
  split at h <;> rename_i c
  · rw [h.1]; exact nm_rg c
  · exact absurd h.symm (nI_nm1 (by omega))
theorem rdd_ok {k p : Nat} {y : Int32} (hL : L ≤ 40) (hp : p ≤ L) (h : RDD f L k p (-1) y) : ∃ n, n ≤ 99 ∧ y = nI n := by
  have hs := sktk_le f hp
  unfold RDD at h
  split at h <;> rename_i c
  · exact rdm_ok hL hp h
  · split at h <;> rename_i d
    · exact rdm_ok hL hs.2.2 h
    · exact absurd h.symm (nI_nm1 (by omega))
theorem rdn_ok {k p : Nat} {x y : Int32} (hL : L ≤ 40) (hp : p ≤ L) (h : RDN f L k p (-1) x y) : (∃ n, n ≤ 99 ∧ x = nI n) ∧ ∃ n, n ≤ 99 ∧ y = nI n := by
  have hs := sktk_le f hp
  unfold RDN at h
  split at h <;> rename_i c
  · exact ⟨by rw [h.1]; exact nm_rg c, rdd_ok hL hs.2.2 h.2⟩
  · exact absurd h.symm (nI_nm1 (by omega))
theorem rds_ok {k a x y : Int32} (hL : L ≤ 40) (h : RDS f L (-1) k a x y) : ∃ N, N ≤ 4 ∧ k = nI N ∧ (a = 0 ∨ a = 1) ∧ (3 ≤ N → a = 0) ∧ (∃ n, n ≤ 99 ∧ x = nI n) ∧ ∃ n, n ≤ 99 ∧ y = nI n := by
  have hs := sktk_le f (Nat.zero_le L)
  have hk := kdR_le f (sk f L 0) (tk f L 0) 5 0
  unfold RDS at h
  split at h <;> rename_i c
  · exact absurd h.symm (nI_nm1 (by omega))
  · obtain ⟨h1, h2⟩ := h
    have hN : kdN f (sk f L 0) (tk f L 0) ≤ 5 := by unfold kdN; omega
    refine ⟨_, by omega, h1, ?_⟩
    unfold RDT at h2
    have hs2 := sktk_le f hs.2.2
    split at h2 <;> rename_i c3
    · split at h2 <;> rename_i d
      · refine ⟨?_, fun g => by omega, rdn_ok hL hs2.2.2 h2.2⟩
        rw [h2.1]
        split
        · exact Or.inl rfl
        · exact Or.inr rfl
      · exact absurd h2.symm (nI_nm1 (by omega))
    · exact ⟨Or.inl h2.1, fun _ => h2.1, rdn_ok hL hs.2.2 h2.2⟩
theorem rds_ex (hL : L ≤ 40) : ∃ e k a x y, RDS f L e k a x y := by
  have hs := sktk_le f (Nat.zero_le L)
  by_cases c : kdN f (sk f L 0) (tk f L 0) = 5
  · refine ⟨nI (sk f L 0), 0, 0, 0, 0, ?_⟩
    unfold RDS
    rw [if_pos c]
  · have g := fe_T (f := f) (k := kdN f (sk f L 0) (tk f L 0)) hL hs.2.2
    have hR : RDS f L (cT f L (kdN f (sk f L 0) (tk f L 0)) (tk f L 0) (-1)) (nI (kdN f (sk f L 0) (tk f L 0))) (aTb f L (kdN f (sk f L 0) (tk f L 0)) (tk f L 0)) (yM f L (pT f L (kdN f (sk f L 0) (tk f L 0)) (tk f L 0))) (yD f L (kdN f (sk f L 0) (tk f L 0)) (tk f L (pT f L (kdN f (sk f L 0) (tk f L 0)) (tk f L 0)))) := by
      unfold RDS
      rw [if_neg c]
      exact ⟨rfl, g⟩
    exact ⟨_, _, _, _, _, hR⟩
theorem rds_e {e k a x y : Int32} (hL : L ≤ 40) (h : RDS f L e k a x y) : e = -1 ∨ ∃ n, n ≤ 40 ∧ e = nI n := by
  have hs := sktk_le f (Nat.zero_le L)
  unfold RDS at h
  split at h
  · exact Or.inr ⟨_, by omega, h⟩
  · obtain ⟨-, h⟩ := h
    have hE : ∀ p, p ≤ L → RDE f L p e → e = -1 ∨ ∃ n, n ≤ 40 ∧ e = nI n := by
      intro p hp g
      have hs := sktk_le f hp
      unfold RDE at g
      split at g
      · exact Or.inr ⟨_, by omega, g⟩
      · exact Or.inl g
    have hM : ∀ p, p ≤ L → RDM f L p e y → e = -1 ∨ ∃ n, n ≤ 40 ∧ e = nI n := by
      intro p hp g
      have hs := sktk_le f hp
      unfold RDM at g
      split at g
      · exact hE _ hs.2.2 g.2
      · exact Or.inr ⟨_, by omega, g⟩
    have hD : ∀ k p, p ≤ L → RDD f L k p e y → e = -1 ∨ ∃ n, n ≤ 40 ∧ e = nI n := by
      intro k p hp g
      have hs := sktk_le f hp
      unfold RDD at g
      split at g
      · exact hM _ hp g
      · split at g
        · exact hM _ hs.2.2 g
        · exact Or.inr ⟨_, by omega, g⟩
    have hN : ∀ k p, p ≤ L → RDN f L k p e x y → e = -1 ∨ ∃ n, n ≤ 40 ∧ e = nI n := by
      intro k p hp g
      have hs := sktk_le f hp
      unfold RDN at g
      split at g
      · exact hD _ _ hs.2.2 g.2
      · exact Or.inr ⟨_, by omega, g⟩
    have hs2 := sktk_le f hs.2.2
    unfold RDT at h
    split at h
    · split at h
      · exact hN _ _ hs2.2.2 h.2
      · exact Or.inr ⟨_, by omega, h⟩
    · exact hN _ _ hs.2.2 h.2
end Rk
def mayD (v : mv) (kd x y : Int32) : Bool := if kd = 4 then (!decide (x = y)) && (isV v x && isV v y) else decide (x ≤ y) && decide (y < 12)
theorem okD_of {v : mv} {f : Nat → Int32} {L : Nat} {kd tb x y : Int32} (hL : L ≤ 40) (h : RDS f L (-1) kd tb x y) (hm : mayD v kd x y = true) (hI : IV v) : okD v kd tb x y := by
  obtain ⟨N, hN, rfl, h1, h2, ⟨a, ha, rfl⟩, ⟨b, hb, rfl⟩⟩ := rds_ok hL h
  unfold mayD at hm
  have htb : rg tb 1 := by
    rcases h1 with rfl | rfl
    · exact rg_nI (n := 0) (by decide) (by decide)
    · exact rg_nI (n := 1) (by decide) (by decide)
  refine ⟨rg_nI hN (by decide), htb, fun g => h2 ((nI_leI (a := 3) (by decide) (by omega)).mp g), ?_⟩
  by_cases c : nI N = 4
  · rw [if_pos c, Bool.and_eq_true, Bool.and_eq_true] at hm
    obtain ⟨m1, m2, m3⟩ := hm
    obtain ⟨-, b1, -, -⟩ := isV_e hI m2
    obtain ⟨-, b2, -, -⟩ := isV_e hI m3
    rw [tn_nI (by omega)] at b1 b2
    refine ⟨rg_nI (by omega) (by decide), rg_nI (by omega) (by decide), fun _ => ⟨?_, m2, m3⟩, fun g => absurd c g⟩
    intro g
    rw [decide_eq_true g] at m1
    cases m1
  · rw [if_neg c, Bool.and_eq_true, decide_eq_true_eq, decide_eq_true_eq] at hm
    have m1 := (nI_leI (by omega) (by omega)).mp hm.1
    have m2 := (nI_ltI (b := 12) (by omega) (by decide)).mp hm.2
    refine ⟨rg_nI (by omega) (by decide), rg_nI (by omega) (by decide), fun g => absurd g c, fun _ => ?_⟩
    rw [tn_nI (by omega), tn_nI (by omega)]
    exact m1
section P9
variable {I : mj_I}
/-- behind a reading -/
theorem sc_rd {I1 : mj_I} (h : ∀ o, o ≠ 1 → I1 o = I o) : SC I I1 := ⟨fun q _ g => h q g, fun q g => h q (by omega)⟩
theorem C_X3_hasFault : mj_R D_X3_hasFault [.inr (some 1)] (mj_w I) (mj_ex (some (.inl (if I 1 3 = -1 then 0 else 1))) I) := by
  have m1 := s_1
  refine mj_enter (by decide +kernel) (Nat.le_of_ble_eq_true rfl) ?_
  by_cases c : I 1 3 = -1
  · rw [if_pos c]
    refine J_ald S_X3_hasFault rfl rfl ?_
    refine J_getI S_X3_hasFault rfl (by assumption) (by omega) ?_
    refine J_C S_X3_hasFault rfl ?_
    refine J_cmp S_X3_hasFault rfl (fun c5 => ?_) (fun c5 => False.elim (c5 c))
    refine J_C S_X3_hasFault rfl ?_
    refine J_retZ S_X3_hasFault rfl (by decide) ?_
    exact ⟨rfl, rfl⟩
  · rw [if_neg c]
    refine J_ald S_X3_hasFault rfl rfl ?_
    refine J_getI S_X3_hasFault rfl (by assumption) (by omega) ?_
    refine J_C S_X3_hasFault rfl ?_
    refine J_cmp S_X3_hasFault rfl (fun c5 => False.elim (c c5)) (fun c5 => ?_)
    refine J_C S_X3_hasFault rfl ?_
    refine J_goto S_X3_hasFault rfl ?_
    refine J_retZ S_X3_hasFault rfl (by decide) ?_
    exact ⟨rfl, rfl⟩
theorem X9_define_fault {w p : mv} {o n L : Nat} {f : Nat → Int32} (hc : CR I w p o n L f) {e kd tb x y : Int32} (hS : RDS f L e kd tb x y) (he : ¬ e = -1) : mj_R D_X9_define [.inr (some 0)] (mj_w I) (mj_px (fun r I1 => r = some (.inl (-1000 - e)) ∧ SC I I1)) := by
  have m0 := s_0
  have m1 := s_1
  have hrd := C_X3_read (I := I) hc.2.2.1 hc.2.2.2.1
  rw [hc.2.2.2.2] at hrd
  have hhf := fun (J : mj_I) (hj : J 1 3 = e) => (show mj_R D_X3_hasFault [.inr (some 1)] (mj_w J) (mj_ex (some (.inl 1)) J) from by
    have g := C_X3_hasFault (I := J)
    rw [hj, if_neg he] at g
    exact g)
  refine mj_enter (by decide +kernel) (Nat.le_of_ble_eq_true rfl) ?_
  refine J_ald S_X9_define rfl rfl ?_
  refine J_getR S_X9_define rfl (o' := 1) (by assumption) (by omega) rfl ?_
  refine J_CV S_X9_define rfl rfl (by assumption) (by omega) (by simp) (hrd) ?_
  rintro _ _ ⟨I1, rfl, rfl, g1, g2⟩
  have e3 := (rds_one hc.2.2.1 g2 hS).1
  refine J_ald S_X9_define rfl rfl ?_
  refine J_getR S_X9_define rfl (o' := 1) (by assumption) (by omega) rfl ?_
  refine J_CVx S_X9_define rfl rfl (by assumption) (by omega) (by simp) (hhf I1 e3) rfl ?_
  refine J_if S_X9_define rfl (fun c14 => False.elim (absurd c14 (by decide))) (fun c14 => ?_)
  refine J_C S_X9_define rfl ?_
  refine J_ald S_X9_define rfl rfl ?_
  refine J_getR S_X9_define rfl (o' := 1) (by assumption) (by omega) rfl ?_
  refine J_getI S_X9_define rfl (by assumption) (by omega) ?_
  refine J_bin S_X9_define rfl ?_
  refine J_retI S_X9_define rfl ?_
  rw [e3]; exact ⟨I1, rfl, rfl, sc_rd g1⟩
theorem X9_define_no {w p : mv} {o n L : Nat} {f : Nat → Int32} (hc : CR I w p o n L f) {kd tb x y : Int32} (hS : RDS f L (-1) kd tb x y) (hm : mayD w kd x y = false) : mj_R D_X9_define [.inr (some 0)] (mj_w I) (mj_px (fun r I1 => r = some (.inl (-100000001)) ∧ SC I I1)) := by
  have m0 := s_0
  have m1 := s_1
  have m4 := mj_S4.1
  have m5 := mj_B5.1
  have hrd := C_X3_read (I := I) hc.2.2.1 hc.2.2.2.1
  rw [hc.2.2.2.2] at hrd
  have hhf := fun (J : mj_I) (hj : J 1 3 = -1) => (show mj_R D_X3_hasFault [.inr (some 1)] (mj_w J) (mj_ex (some (.inl 0)) J) from by
    have g := C_X3_hasFault (I := J)
    rw [hj, if_pos rfl] at g
    exact g)
  have hal := fun (J : mj_I) (h : SC I J) => (show mj_R D_X0_allows [.inr (some 5), .inl kd, .inl x, .inl y] (mj_w J) (mj_ex (some (.inl (bi (mayD w kd x y)))) J) from C_X0_allows mj_B5 (CR_sc hc h).1.1 hc.1.2.1)
  rw [hm] at hal
  refine mj_enter (by decide +kernel) (Nat.le_of_ble_eq_true rfl) ?_
  refine J_ald S_X9_define rfl rfl ?_
  refine J_getR S_X9_define rfl (o' := 1) (by assumption) (by omega) rfl ?_
  refine J_CV S_X9_define rfl rfl (by assumption) (by omega) (by simp) (hrd) ?_
  rintro _ _ ⟨I1, rfl, rfl, g1, g2⟩
  obtain ⟨e3, q⟩ := rds_one hc.2.2.1 g2 hS
  obtain ⟨q1, q2, q3, q4⟩ := q e3
  refine J_ald S_X9_define rfl rfl ?_
  refine J_getR S_X9_define rfl (o' := 1) (by assumption) (by omega) rfl ?_
  refine J_CVx S_X9_define rfl rfl (by assumption) (by omega) (by simp) (hhf I1 e3) rfl ?_
  refine J_if S_X9_define rfl (fun c14 => ?_) (fun c14 => False.elim (c14 rfl))
  refine J_ald S_X9_define rfl rfl ?_
  refine J_getR S_X9_define rfl (o' := 4) (by assumption) (by omega) rfl ?_
  refine J_getR S_X9_define rfl (o' := 5) (by assumption) (by omega) rfl ?_
  refine J_ast S_X9_define rfl rfl ?_
  refine J_ald S_X9_define rfl rfl ?_
  refine J_ald S_X9_define rfl rfl ?_
  refine J_getR S_X9_define rfl (o' := 1) (by assumption) (by omega) rfl ?_
  refine J_getI S_X9_define rfl (by assumption) (by omega) ?_
  refine J_ald S_X9_define rfl rfl ?_
  refine J_getR S_X9_define rfl (o' := 1) (by assumption) (by omega) rfl ?_
  refine J_getI S_X9_define rfl (by assumption) (by omega) ?_
  refine J_ald S_X9_define rfl rfl ?_
  refine J_getR S_X9_define rfl (o' := 1) (by assumption) (by omega) rfl ?_
  refine J_getI S_X9_define rfl (by assumption) (by omega) ?_
  rw [q1, q3, q4]
  refine J_CVx S_X9_define rfl rfl (by assumption) (by omega) (by simp) (hal I1 (sc_rd g1)) rfl ?_
  refine J_if S_X9_define rfl (fun c62 => False.elim (c62 rfl)) (fun c62 => ?_)
  refine J_C S_X9_define rfl ?_
  refine J_retI S_X9_define rfl ?_
  exact ⟨I1, rfl, rfl, sc_rd g1⟩
theorem X9_define_full {w p : mv} {o n L : Nat} {f : Nat → Int32} (hc : CR I w p o n L f) {kd tb x y : Int32} (hS : RDS f L (-1) kd tb x y) (hm : mayD w kd x y = true) (hd : tn (w 1) = 8) : mj_R D_X9_define [.inr (some 0)] (mj_w I) (mj_px (fun r I1 => r = some (.inl (-100000003)) ∧ SC I I1)) := by
  have m0 := s_0
  have m1 := s_1
  have m4 := mj_S4.1
  have m5 := mj_B5.1
  have hrd := C_X3_read (I := I) hc.2.2.1 hc.2.2.2.1
  rw [hc.2.2.2.2] at hrd
  have hhf := fun (J : mj_I) (hj : J 1 3 = -1) => (show mj_R D_X3_hasFault [.inr (some 1)] (mj_w J) (mj_ex (some (.inl 0)) J) from by
    have g := C_X3_hasFault (I := J)
    rw [hj, if_pos rfl] at g
    exact g)
  have hal := fun (J : mj_I) (h : SC I J) => (show mj_R D_X0_allows [.inr (some 5), .inl kd, .inl x, .inl y] (mj_w J) (mj_ex (some (.inl (bi (mayD w kd x y)))) J) from C_X0_allows mj_B5 (CR_sc hc h).1.1 hc.1.2.1)
  rw [hm] at hal
  have e54 : I 5 4 = 8 := by rw [show I 5 4 = w 1 from hc.1.1.2.1 0 (by decide), hc.1.2.1.2.1.1, hd]; rfl
  refine mj_enter (by decide +kernel) (Nat.le_of_ble_eq_true rfl) ?_
  refine J_ald S_X9_define rfl rfl ?_
  refine J_getR S_X9_define rfl (o' := 1) (by assumption) (by omega) rfl ?_
  refine J_CV S_X9_define rfl rfl (by assumption) (by omega) (by simp) (hrd) ?_
  rintro _ _ ⟨I1, rfl, rfl, g1, g2⟩
  obtain ⟨e3, q⟩ := rds_one hc.2.2.1 g2 hS
  obtain ⟨q1, q2, q3, q4⟩ := q e3
  refine J_ald S_X9_define rfl rfl ?_
  refine J_getR S_X9_define rfl (o' := 1) (by assumption) (by omega) rfl ?_
  refine J_CVx S_X9_define rfl rfl (by assumption) (by omega) (by simp) (hhf I1 e3) rfl ?_
  refine J_if S_X9_define rfl (fun c14 => ?_) (fun c14 => False.elim (c14 rfl))
  refine J_ald S_X9_define rfl rfl ?_
  refine J_getR S_X9_define rfl (o' := 4) (by assumption) (by omega) rfl ?_
  refine J_getR S_X9_define rfl (o' := 5) (by assumption) (by omega) rfl ?_
  refine J_ast S_X9_define rfl rfl ?_
  refine J_ald S_X9_define rfl rfl ?_
  refine J_ald S_X9_define rfl rfl ?_
  refine J_getR S_X9_define rfl (o' := 1) (by assumption) (by omega) rfl ?_
  refine J_getI S_X9_define rfl (by assumption) (by omega) ?_
  refine J_ald S_X9_define rfl rfl ?_
  refine J_getR S_X9_define rfl (o' := 1) (by assumption) (by omega) rfl ?_
  refine J_getI S_X9_define rfl (by assumption) (by omega) ?_
  refine J_ald S_X9_define rfl rfl ?_
  refine J_getR S_X9_define rfl (o' := 1) (by assumption) (by omega) rfl ?_
  refine J_getI S_X9_define rfl (by assumption) (by omega) ?_
  rw [q1, q3, q4]
  refine J_CVx S_X9_define rfl rfl (by assumption) (by omega) (by simp) (hal I1 (sc_rd g1)) rfl ?_
  refine J_if S_X9_define rfl (fun c62 => ?_) (fun c62 => False.elim (absurd c62 (by decide)))
  refine J_ald S_X9_define rfl rfl ?_
  refine J_getI S_X9_define rfl (by assumption) (by omega) ?_
  refine J_C S_X9_define rfl ?_
  rw [g1 5 (by decide), e54]
  refine J_cmp S_X9_define rfl (fun c74 => False.elim (absurd c74 (by decide))) (fun c74 => ?_)
  refine J_C S_X9_define rfl ?_
  refine J_retI S_X9_define rfl ?_
  exact ⟨I1, rfl, rfl, sc_rd g1⟩
theorem X9_define_ok {w p : mv} {o n L : Nat} {f : Nat → Int32} (hc : CR I w p o n L f) {kd tb x y : Int32} (hS : RDS f L (-1) kd tb x y) (hm : mayD w kd x y = true) (hd : tn (w 1) < 8) : mj_R D_X9_define [.inr (some 0)] (mj_w I) (mj_px (fun r I4 => r = some (.inl (nI (tn (w 1)))) ∧ CR I4 (defV w kd tb x y) (ntP n p w) ((o + ntD n) % 5) (ntM n + 1) 0 f ∧ UP I I4)) := by
  have m0 := s_0
  have m1 := s_1
  have m2 := s_2
  have m4 := mj_S4.1
  have m5 := mj_B5.1
  have m52 := s_52
  have hI := hc.1.2.1
  have hOK := okD_of hc.2.2.1 hS hm hI
  have hrd := C_X3_read (I := I) hc.2.2.1 hc.2.2.2.1
  rw [hc.2.2.2.2] at hrd
  have hhf := fun (J : mj_I) (hj : J 1 3 = -1) => (show mj_R D_X3_hasFault [.inr (some 1)] (mj_w J) (mj_ex (some (.inl 0)) J) from by
    have g := C_X3_hasFault (I := J)
    rw [hj, if_pos rfl] at g
    exact g)
  have hal := fun (J : mj_I) (h : SC I J) => (show mj_R D_X0_allows [.inr (some 5), .inl kd, .inl x, .inl y] (mj_w J) (mj_ex (some (.inl (bi (mayD w kd x y)))) J) from C_X0_allows mj_B5 (CR_sc hc h).1.1 hc.1.2.1)
  rw [hm] at hal
  have e54 : I 5 4 = nI (tn (w 1)) := by rw [← hI.2.1.1]; exact hc.1.1.2.1 0 (by decide)
  have hrec := fun (J : mj_I) (h : SC I J) => Z_rec (CR_sc hc h)
  have hadd := fun (J : mj_I) (h : RB J 5 w) => C_X0_addView (I := mj_up J 2 1 0) mj_B5 (RB_fr (I := J) (fun o h1 h2 => mj_up_ne (by omega)) h) hI hd hOK
  refine mj_enter (by decide +kernel) (Nat.le_of_ble_eq_true rfl) ?_
  refine J_ald S_X9_define rfl rfl ?_
  refine J_getR S_X9_define rfl (o' := 1) (by assumption) (by omega) rfl ?_
  refine J_CV S_X9_define rfl rfl (by assumption) (by omega) (by simp) (hrd) ?_
  rintro _ _ ⟨I1, rfl, rfl, g1, g2⟩
  obtain ⟨e3, q⟩ := rds_one hc.2.2.1 g2 hS
  obtain ⟨q1, q2, q3, q4⟩ := q e3
  refine J_ald S_X9_define rfl rfl ?_
  refine J_getR S_X9_define rfl (o' := 1) (by assumption) (by omega) rfl ?_
  refine J_CVx S_X9_define rfl rfl (by assumption) (by omega) (by simp) (hhf I1 e3) rfl ?_
  refine J_if S_X9_define rfl (fun c14 => ?_) (fun c14 => False.elim (c14 rfl))
  refine J_ald S_X9_define rfl rfl ?_
  refine J_getR S_X9_define rfl (o' := 4) (by assumption) (by omega) rfl ?_
  refine J_getR S_X9_define rfl (o' := 5) (by assumption) (by omega) rfl ?_
  refine J_ast S_X9_define rfl rfl ?_
  refine J_ald S_X9_define rfl rfl ?_
  refine J_ald S_X9_define rfl rfl ?_
  refine J_getR S_X9_define rfl (o' := 1) (by assumption) (by omega) rfl ?_
  refine J_getI S_X9_define rfl (by assumption) (by omega) ?_
  refine J_ald S_X9_define rfl rfl ?_
  refine J_getR S_X9_define rfl (o' := 1) (by assumption) (by omega) rfl ?_
  refine J_getI S_X9_define rfl (by assumption) (by omega) ?_
  refine J_ald S_X9_define rfl rfl ?_
  refine J_getR S_X9_define rfl (o' := 1) (by assumption) (by omega) rfl ?_
  refine J_getI S_X9_define rfl (by assumption) (by omega) ?_
  rw [q1, q3, q4]
  refine J_CVx S_X9_define rfl rfl (by assumption) (by omega) (by simp) (hal I1 (sc_rd g1)) rfl ?_
  refine J_if S_X9_define rfl (fun c62 => ?_) (fun c62 => False.elim (absurd c62 (by decide)))
  refine J_ald S_X9_define rfl rfl ?_
  refine J_getI S_X9_define rfl (by assumption) (by omega) ?_
  refine J_C S_X9_define rfl ?_
  rw [g1 5 (by decide), e54]
  refine J_cmp S_X9_define rfl (fun c74 => ?_) (fun c74 => False.elim (c74 (nI_lt (b := 8) hd (by decide))))
  refine J_ald S_X9_define rfl rfl ?_
  refine J_getR S_X9_define rfl (o' := 52) (by assumption) (by omega) rfl ?_
  refine J_ald S_X9_define rfl rfl ?_
  refine J_getR S_X9_define rfl (o' := 4) (by assumption) (by omega) rfl ?_
  refine J_CV S_X9_define rfl rfl (by assumption) (by omega) (by simp) (hrec I1 (sc_rd g1)) ?_
  rintro _ _ ⟨I2, rfl, rfl, hr⟩
  have hS2 := RC_R (CR_sc hc (sc_rd g1)) hr
  refine J_ald S_X9_define rfl rfl ?_
  refine J_getR S_X9_define rfl (o' := 1) (by assumption) (by omega) rfl ?_
  refine J_getR S_X9_define rfl (o' := 2) (by assumption) (by omega) rfl ?_
  refine J_CVx S_X9_define rfl rfl (by assumption) (by omega) (by simp) (C_X7_empty) rfl ?_
  refine J_ald S_X9_define rfl rfl ?_
  refine J_ald S_X9_define rfl rfl ?_
  refine J_getR S_X9_define rfl (o' := 1) (by assumption) (by omega) rfl ?_
  refine J_getI S_X9_define rfl (by assumption) (by omega) ?_
  refine J_ald S_X9_define rfl rfl ?_
  refine J_getR S_X9_define rfl (o' := 1) (by assumption) (by omega) rfl ?_
  refine J_getI S_X9_define rfl (by assumption) (by omega) ?_
  refine J_ald S_X9_define rfl rfl ?_
  refine J_getR S_X9_define rfl (o' := 1) (by assumption) (by omega) rfl ?_
  refine J_getI S_X9_define rfl (by assumption) (by omega) ?_
  refine J_ald S_X9_define rfl rfl ?_
  refine J_getR S_X9_define rfl (o' := 1) (by assumption) (by omega) rfl ?_
  refine J_getI S_X9_define rfl (by assumption) (by omega) ?_
  rw [mj_up_ne (show (1 : Nat) ≠ 2 by decide), hr.1 1 (by decide), q1, q2, q3, q4]
  refine J_CV S_X9_define rfl rfl (by assumption) (by omega) (by simp) (hadd I2 hS2.1) ?_
  rintro _ _ ⟨I4, rfl, rfl, a1, a2⟩
  refine J_retI S_X9_define rfl ?_
  refine ⟨I4, rfl, rfl, ⟨?_, RH_fr hr.2 (fun q h1 h2 => by rw [a2 q (by omega), mj_up_ne (by omega)]), by decide, ?_, ?_⟩, fun q hq => by rw [a2 q (by omega), mj_up_ne (by omega), hr.1 q (by omega), g1 q (by omega)]⟩
  · exact RS_bk (RS_fr hS2 (fun q h1 h2 => mj_up_ne (x := 0) (k := 1) (o := 2) (by omega))) a1 (def_I hI hd hOK) (def_Z hc.1.2.2.1) (fun i hi => def_h hd hi) a2
  · rw [a2 2 (by omega), mj_up_eq, up_s]; exact nI_0.symm
  · rw [a2 3 (by omega), mj_up_ne (by decide), hr.1 3 (by omega), g1 3 (by decide)]; exact hc.2.2.2.2
/-! the reference -/
theorem ms_mb {J : mj_I} (h : MB I J) : Ms I J := ⟨fun o a _ _ _ _ => h.1 o a, h.2 2 (by decide), h.2 4 (by decide)⟩
theorem X10_define_fault {L : Nat} (hL : L ≤ 40) (h4 : I 313 4 = nI L) {e kd tb x y : Int32} (hS : RDS (I 316) L e kd tb x y) (he : ¬ e = -1) : mj_R D_X10_define [.inr (some 313)] (mj_w I) (mj_px (fun r I2 => r = some (.inl (-1000 - e)) ∧ Ms I I2)) := by
  have m0 := s_313
  have hrd := C_X10_reads (I := I) hL h4
  have he0 : ¬ e < 0 := by
    rcases rds_e hL hS with g | ⟨m, hm, rfl⟩
    · exact absurd g he
    · exact fun c => nI_pos (by omega) c
  refine mj_enter (by decide +kernel) (Nat.le_of_ble_eq_true rfl) ?_
  refine J_ald S_X10_define rfl rfl ?_
  refine J_CV S_X10_define rfl rfl (by assumption) (by omega) (by simp) (hrd) ?_
  rintro _ _ ⟨J, rfl, rfl, g1, g2⟩
  have e3 := (rds_one hL g2 hS).1
  refine J_ald S_X10_define rfl rfl ?_
  refine J_getI S_X10_define rfl (by assumption) (by omega) ?_
  rw [e3]
  refine J_if S_X10_define rfl (fun c8 => False.elim (he0 c8)) (fun c8 => ?_)
  refine J_C S_X10_define rfl ?_
  refine J_ald S_X10_define rfl rfl ?_
  refine J_getI S_X10_define rfl (by assumption) (by omega) ?_
  refine J_bin S_X10_define rfl ?_
  refine J_retI S_X10_define rfl ?_
  rw [e3]; exact ⟨J, rfl, rfl, ms_mb g1⟩
/-- the reference's own question, from behind its reading to the branch at 95 -/
theorem X10_may {post : Option mj_V → mj_M → Prop} {J : mj_I} {w : mv} {kd x y : Int32} (hw : J 314 = w) (hI : IV w) (q1 : J 313 14 = kd) (q3 : J 313 16 = x) (q4 : J 313 17 = y) {q2 : Option mj_V} (hk : mj_J D_X10_define post 95 [some (.inr (some 313)), some (.inl (bi (mayD w kd x y))), q2] [] (mj_w J) (0, 0)) : mj_J D_X10_define post 20 [some (.inr (some 313)), none, q2] [] (mj_w J) (0, 0) := by
  have m0 := s_313
  have hiv := fun x => C_X10_isView (I := J) (by rw [hw]; exact hI) (x := x)
  rw [hw] at hiv
  unfold mayD at hk
  by_cases c4 : kd = 4
  · rw [if_pos c4] at hk
    cases h1 : isV w x
    · rw [h1, Bool.false_and, Bool.and_false] at hk
      have i1 := hiv x
      rw [h1] at i1
      refine J_ald S_X10_define rfl rfl ?_
      refine J_getI S_X10_define rfl (by assumption) (by omega) ?_
      refine J_C S_X10_define rfl ?_
      rw [q1]
      refine J_cmp S_X10_define rfl (fun c25 => False.elim (c25 c4)) (fun c25 => ?_)
      refine J_ald S_X10_define rfl rfl ?_
      refine J_ald S_X10_define rfl rfl ?_
      refine J_getI S_X10_define rfl (by assumption) (by omega) ?_
      rw [q3]
      refine J_CVx S_X10_define rfl rfl (by assumption) (by omega) (by simp) (i1) rfl ?_
      refine J_if S_X10_define rfl (fun c36 => ?_) (fun c36 => False.elim (c36 rfl))
      refine J_C S_X10_define rfl ?_
      refine J_goto S_X10_define rfl ?_
      refine J_ist S_X10_define rfl rfl ?_
      exact hk
    · have i1 := hiv x
      rw [h1] at i1
      cases h2 : isV w y
      · rw [h1, h2, Bool.and_false, Bool.and_false] at hk
        have i2 := hiv y
        rw [h2] at i2
        refine J_ald S_X10_define rfl rfl ?_
        refine J_getI S_X10_define rfl (by assumption) (by omega) ?_
        refine J_C S_X10_define rfl ?_
        rw [q1]
        refine J_cmp S_X10_define rfl (fun c25 => False.elim (c25 c4)) (fun c25 => ?_)
        refine J_ald S_X10_define rfl rfl ?_
        refine J_ald S_X10_define rfl rfl ?_
        refine J_getI S_X10_define rfl (by assumption) (by omega) ?_
        rw [q3]
        refine J_CVx S_X10_define rfl rfl (by assumption) (by omega) (by simp) (i1) rfl ?_
        refine J_if S_X10_define rfl (fun c36 => False.elim (absurd c36 (by decide))) (fun c36 => ?_)
        refine J_ald S_X10_define rfl rfl ?_
        refine J_ald S_X10_define rfl rfl ?_
        refine J_getI S_X10_define rfl (by assumption) (by omega) ?_
        rw [q4]
        refine J_CVx S_X10_define rfl rfl (by assumption) (by omega) (by simp) (i2) rfl ?_
        refine J_if S_X10_define rfl (fun c47 => ?_) (fun c47 => False.elim (c47 rfl))
        refine J_C S_X10_define rfl ?_
        refine J_goto S_X10_define rfl ?_
        refine J_ist S_X10_define rfl rfl ?_
        exact hk
      · have i2 := hiv y
        rw [h2] at i2
        rw [h1, h2, Bool.and_true, Bool.and_true] at hk
        by_cases hxy : x = y
        · rw [decide_eq_true hxy] at hk
          refine J_ald S_X10_define rfl rfl ?_
          refine J_getI S_X10_define rfl (by assumption) (by omega) ?_
          refine J_C S_X10_define rfl ?_
          rw [q1]
          refine J_cmp S_X10_define rfl (fun c25 => False.elim (c25 c4)) (fun c25 => ?_)
          refine J_ald S_X10_define rfl rfl ?_
          refine J_ald S_X10_define rfl rfl ?_
          refine J_getI S_X10_define rfl (by assumption) (by omega) ?_
          rw [q3]
          refine J_CVx S_X10_define rfl rfl (by assumption) (by omega) (by simp) (i1) rfl ?_
          refine J_if S_X10_define rfl (fun c36 => False.elim (absurd c36 (by decide))) (fun c36 => ?_)
          refine J_ald S_X10_define rfl rfl ?_
          refine J_ald S_X10_define rfl rfl ?_
          refine J_getI S_X10_define rfl (by assumption) (by omega) ?_
          rw [q4]
          refine J_CVx S_X10_define rfl rfl (by assumption) (by omega) (by simp) (i2) rfl ?_
          refine J_if S_X10_define rfl (fun c47 => False.elim (absurd c47 (by decide))) (fun c47 => ?_)
          refine J_ald S_X10_define rfl rfl ?_
          refine J_getI S_X10_define rfl (by assumption) (by omega) ?_
          refine J_ald S_X10_define rfl rfl ?_
          refine J_getI S_X10_define rfl (by assumption) (by omega) ?_
          rw [q3, q4]
          refine J_cmp S_X10_define rfl (fun c58 => ?_) (fun c58 => False.elim (c58 hxy))
          refine J_C S_X10_define rfl ?_
          refine J_goto S_X10_define rfl ?_
          refine J_ist S_X10_define rfl rfl ?_
          exact hk
        · rw [decide_eq_false hxy] at hk
          refine J_ald S_X10_define rfl rfl ?_
          refine J_getI S_X10_define rfl (by assumption) (by omega) ?_
          refine J_C S_X10_define rfl ?_
          rw [q1]
          refine J_cmp S_X10_define rfl (fun c25 => False.elim (c25 c4)) (fun c25 => ?_)
          refine J_ald S_X10_define rfl rfl ?_
          refine J_ald S_X10_define rfl rfl ?_
          refine J_getI S_X10_define rfl (by assumption) (by omega) ?_
          rw [q3]
          refine J_CVx S_X10_define rfl rfl (by assumption) (by omega) (by simp) (i1) rfl ?_
          refine J_if S_X10_define rfl (fun c36 => False.elim (absurd c36 (by decide))) (fun c36 => ?_)
          refine J_ald S_X10_define rfl rfl ?_
          refine J_ald S_X10_define rfl rfl ?_
          refine J_getI S_X10_define rfl (by assumption) (by omega) ?_
          rw [q4]
          refine J_CVx S_X10_define rfl rfl (by assumption) (by omega) (by simp) (i2) rfl ?_
          refine J_if S_X10_define rfl (fun c47 => False.elim (absurd c47 (by decide))) (fun c47 => ?_)
          refine J_ald S_X10_define rfl rfl ?_
          refine J_getI S_X10_define rfl (by assumption) (by omega) ?_
          refine J_ald S_X10_define rfl rfl ?_
          refine J_getI S_X10_define rfl (by assumption) (by omega) ?_
          rw [q3, q4]
          refine J_cmp S_X10_define rfl (fun c58 => False.elim (hxy c58)) (fun c58 => ?_)
          refine J_C S_X10_define rfl ?_
          refine J_goto S_X10_define rfl ?_
          refine J_ist S_X10_define rfl rfl ?_
          exact hk
  · rw [if_neg c4] at hk
    by_cases h1 : y < 12
    · by_cases h2 : x ≤ y
      · rw [decide_eq_true h1, decide_eq_true h2] at hk
        refine J_ald S_X10_define rfl rfl ?_
        refine J_getI S_X10_define rfl (by assumption) (by omega) ?_
        refine J_C S_X10_define rfl ?_
        rw [q1]
        refine J_cmp S_X10_define rfl (fun c25 => ?_) (fun c25 => False.elim (c4 c25))
        refine J_ald S_X10_define rfl rfl ?_
        refine J_getI S_X10_define rfl (by assumption) (by omega) ?_
        refine J_C S_X10_define rfl ?_
        rw [q4]
        refine J_cmp S_X10_define rfl (fun c75 => False.elim (Int32.not_lt.mpr c75 h1)) (fun c75 => ?_)
        refine J_ald S_X10_define rfl rfl ?_
        refine J_getI S_X10_define rfl (by assumption) (by omega) ?_
        refine J_ald S_X10_define rfl rfl ?_
        refine J_getI S_X10_define rfl (by assumption) (by omega) ?_
        rw [q3, q4]
        refine J_cmp S_X10_define rfl (fun c86 => False.elim (Int32.not_lt.mpr h2 c86)) (fun c86 => ?_)
        refine J_C S_X10_define rfl ?_
        refine J_goto S_X10_define rfl ?_
        refine J_ist S_X10_define rfl rfl ?_
        exact hk
      · rw [decide_eq_false h2, Bool.false_and] at hk
        refine J_ald S_X10_define rfl rfl ?_
        refine J_getI S_X10_define rfl (by assumption) (by omega) ?_
        refine J_C S_X10_define rfl ?_
        rw [q1]
        refine J_cmp S_X10_define rfl (fun c25 => ?_) (fun c25 => False.elim (c4 c25))
        refine J_ald S_X10_define rfl rfl ?_
        refine J_getI S_X10_define rfl (by assumption) (by omega) ?_
        refine J_C S_X10_define rfl ?_
        rw [q4]
        refine J_cmp S_X10_define rfl (fun c75 => False.elim (Int32.not_lt.mpr c75 h1)) (fun c75 => ?_)
        refine J_ald S_X10_define rfl rfl ?_
        refine J_getI S_X10_define rfl (by assumption) (by omega) ?_
        refine J_ald S_X10_define rfl rfl ?_
        refine J_getI S_X10_define rfl (by assumption) (by omega) ?_
        rw [q3, q4]
        refine J_cmp S_X10_define rfl (fun c86 => ?_) (fun c86 => False.elim (c86 (Int32.not_le.mp h2)))
        refine J_C S_X10_define rfl ?_
        refine J_ist S_X10_define rfl rfl ?_
        exact hk
    · rw [decide_eq_false h1, Bool.and_false] at hk
      refine J_ald S_X10_define rfl rfl ?_
      refine J_getI S_X10_define rfl (by assumption) (by omega) ?_
      refine J_C S_X10_define rfl ?_
      rw [q1]
      refine J_cmp S_X10_define rfl (fun c25 => ?_) (fun c25 => False.elim (c4 c25))
      refine J_ald S_X10_define rfl rfl ?_
      refine J_getI S_X10_define rfl (by assumption) (by omega) ?_
      refine J_C S_X10_define rfl ?_
      rw [q4]
      refine J_cmp S_X10_define rfl (fun c75 => ?_) (fun c75 => False.elim (c75 (Int32.not_lt.mp h1)))
      refine J_C S_X10_define rfl ?_
      refine J_ist S_X10_define rfl rfl ?_
      exact hk
theorem X10_define_no {L : Nat} (hL : L ≤ 40) (hI : IV (I 314)) (h4 : I 313 4 = nI L) {kd tb x y : Int32} (hS : RDS (I 316) L (-1) kd tb x y) (hm : mayD (I 314) kd x y = false) : mj_R D_X10_define [.inr (some 313)] (mj_w I) (mj_px (fun r I2 => r = some (.inl (-100000001)) ∧ Ms I I2)) := by
  have m0 := s_313
  have hrd := C_X10_reads (I := I) hL h4
  refine mj_enter (by decide +kernel) (Nat.le_of_ble_eq_true rfl) ?_
  refine J_ald S_X10_define rfl rfl ?_
  refine J_CV S_X10_define rfl rfl (by assumption) (by omega) (by simp) (hrd) ?_
  rintro _ _ ⟨J, rfl, rfl, g1, g2⟩
  obtain ⟨e3, q⟩ := rds_one hL g2 hS
  obtain ⟨q1, q2, q3, q4⟩ := q e3
  refine J_ald S_X10_define rfl rfl ?_
  refine J_getI S_X10_define rfl (by assumption) (by omega) ?_
  rw [e3]
  refine J_if S_X10_define rfl (fun c8 => ?_) (fun c8 => False.elim (absurd c8 (by decide)))
  refine X10_may (g1.1 314 (by decide)) hI q1 q3 q4 ?_
  rw [hm]
  refine J_ild S_X10_define rfl rfl ?_
  refine J_if S_X10_define rfl (fun c => False.elim (c rfl)) (fun c => ?_)
  refine J_C S_X10_define rfl ?_
  refine J_retI S_X10_define rfl ?_
  exact ⟨J, rfl, rfl, ms_mb g1⟩
theorem X10_define_full {L : Nat} (hL : L ≤ 40) (hI : IV (I 314)) (h4 : I 313 4 = nI L) {kd tb x y : Int32} (hS : RDS (I 316) L (-1) kd tb x y) (hm : mayD (I 314) kd x y = true) (hd : tn (I 314 1) = 8) : mj_R D_X10_define [.inr (some 313)] (mj_w I) (mj_px (fun r I2 => r = some (.inl (-100000003)) ∧ Ms I I2)) := by
  have m0 := s_313
  have m1 := s_314
  have hrd := C_X10_reads (I := I) hL h4
  have e1 : I 314 1 = 8 := by rw [hI.2.1.1, hd]; rfl
  refine mj_enter (by decide +kernel) (Nat.le_of_ble_eq_true rfl) ?_
  have tail : ∀ (J : mj_I) (q2 : Option mj_V), MB I J → mj_J D_X10_define (mj_px (fun r I2 => r = some (.inl (-100000003)) ∧ Ms I I2)) 95 [some (.inr (some 313)), some (.inl 1), q2] [] (mj_w J) (0, 0) := by
    intro J q2 g1
    refine J_ild S_X10_define rfl rfl ?_
    refine J_if S_X10_define rfl (fun c96 => ?_) (fun c96 => False.elim (absurd c96 (by decide)))
    refine J_ald S_X10_define rfl rfl ?_
    refine J_getR S_X10_define rfl (o' := 314) (by assumption) (by omega) rfl ?_
    refine J_C S_X10_define rfl ?_
    refine J_iald S_X10_define rfl (by assumption) (by omega) (j := 1) rfl (by omega) (by decide) ?_
    refine J_C S_X10_define rfl ?_
    rw [g1.1 314 (by decide), e1]
    refine J_cmp S_X10_define rfl (fun c110 => False.elim (c110 rfl)) (fun c110 => ?_)
    refine J_C S_X10_define rfl ?_
    refine J_retI S_X10_define rfl ?_
    exact ⟨J, rfl, rfl, ms_mb g1⟩
  refine J_ald S_X10_define rfl rfl ?_
  refine J_CV S_X10_define rfl rfl (by assumption) (by omega) (by simp) (hrd) ?_
  rintro _ _ ⟨J, rfl, rfl, g1, g2⟩
  obtain ⟨e3, q⟩ := rds_one hL g2 hS
  obtain ⟨q1, q2, q3, q4⟩ := q e3
  refine J_ald S_X10_define rfl rfl ?_
  refine J_getI S_X10_define rfl (by assumption) (by omega) ?_
  rw [e3]
  refine J_if S_X10_define rfl (fun c8 => ?_) (fun c8 => False.elim (absurd c8 (by decide)))
  refine X10_may (g1.1 314 (by decide)) hI q1 q3 q4 ?_
  rw [hm]
  exact tail J _ g1
/-- noted and named anew -/
def MD (n : Nat) (I I' : mj_I) (w' : mv) : Prop := (∀ q, q ≠ 313 → q ≠ 314 → q ≠ 315 → I' q = I q) ∧ I' 314 = w' ∧ (∃ d m, NT n d m (I 315) (I 314) (I' 315) ∧ I' 313 2 = nI (m + 1)) ∧ I' 313 4 = 0
theorem md_up {n : Nat} {I1 : mj_I} {w : mv} {i : Nat} {x : Int32} (h : MD n I I1 w) : MD n I (mj_up I1 314 i x) (upd w i x) := by
  obtain ⟨h1, h2, ⟨d, m, h3, h4⟩, h5⟩ := h
  exact ⟨fun q a b c => by rw [mj_up_ne b]; exact h1 q a b c, by rw [mj_up_eq, h2], ⟨d, m, by rw [mj_up_ne (by decide)]; exact h3, by rw [mj_up_ne (by decide)]; exact h4⟩, by rw [mj_up_ne (by decide)]; exact h5⟩
theorem X10_define_ok {L n : Nat} (hL : L ≤ 40) (hI : IV (I 314)) (h2 : I 313 2 = nI n) (hn : n ≤ 5) (h4 : I 313 4 = nI L) {kd tb x y : Int32} (hS : RDS (I 316) L (-1) kd tb x y) (hm : mayD (I 314) kd x y = true) (hd : tn (I 314 1) < 8) : mj_R D_X10_define [.inr (some 313)] (mj_w I) (mj_px (fun r I2 => r = some (.inl (nI (tn (I 314 1)))) ∧ MD n I I2 (defV (I 314) kd tb x y))) := by
  have m0 := s_313
  have m1 := s_314
  have hrd := C_X10_reads (I := I) hL h4
  obtain ⟨df, hdf⟩ : ∃ d, tn (I 314 1) = d := ⟨_, rfl⟩
  have e1 : I 314 1 = nI df := by rw [hI.2.1.1, hdf]
  rw [hdf] at hd ⊢
  have hno := fun (J : mj_I) (h : MB I J) => C_X10_notes (I := J) (n := n) (by rw [h.2 2 (by decide)]; exact h2) hn
  have hv := fun (J : mj_I) f => C_X10_v (I := J) (k := df) (f := f)
  refine mj_enter (by decide +kernel) (Nat.le_of_ble_eq_true rfl) ?_
  have tail : ∀ (J : mj_I) (q2 : Option mj_V), MB I J → J 313 14 = kd → J 313 15 = tb → J 313 16 = x → J 313 17 = y → mj_J D_X10_define (mj_px (fun r I2 => r = some (.inl (nI df)) ∧ MD n I I2 (defV (I 314) kd tb x y))) 95 [some (.inr (some 313)), some (.inl 1), q2] [] (mj_w J) (0, 0) := by
    intro J q2 g1 q14 q15 q16 q17
    have e314 : J 314 = I 314 := g1.1 314 (by decide)
    have e315 : J 315 = I 315 := g1.1 315 (by decide)
    have stop : ∀ J2 : mj_I, MD n I J2 (I 314) → J2 313 14 = kd → J2 313 15 = tb → J2 313 16 = x → J2 313 17 = y → mj_J D_X10_define (mj_px (fun r I2 => r = some (.inl (nI df)) ∧ MD n I I2 (defV (I 314) kd tb x y))) 125 [some (.inr (some 313)), some (.inl 1), q2] [] (mj_w J2) (0, 0) := by
      intro J2 hM p14 p15 p16 p17
      have f314 : J2 314 = I 314 := hM.2.1
      have hfin := md_up (i := 1) (x := nI df + 1) (md_up (i := 615 + 9 * df + 8) (x := 0) (md_up (i := 615 + 9 * df + 7) (x := 0) (md_up (i := 615 + 9 * df + 6) (x := I 314 0) (md_up (i := 615 + 9 * df + 5) (x := 0) (md_up (i := 615 + 9 * df + 4) (x := 1) (md_up (i := 615 + 9 * df + 3) (x := y) (md_up (i := 615 + 9 * df + 2) (x := x) (md_up (i := 615 + 9 * df + 1) (x := tb) (md_up (i := 615 + 9 * df + 0) (x := kd) hM)))))))))
      have hdv : defV (I 314) kd tb x y = upd (upd (upd (upd (upd (upd (upd (upd (upd (upd (I 314) (615 + 9 * df + 0) kd) (615 + 9 * df + 1) tb) (615 + 9 * df + 2) x) (615 + 9 * df + 3) y) (615 + 9 * df + 4) 1) (615 + 9 * df + 5) 0) (615 + 9 * df + 6) (I 314 0)) (615 + 9 * df + 7) 0) (615 + 9 * df + 8) 0) 1 (nI df + 1) := by
        unfold defV
        rw [hdf, e1]
      rw [hdv]
      have n313 : ∀ (K : mj_I) i z, mj_up K 314 i z 313 = K 313 := fun K i z => mj_up_ne (by decide)
      refine J_ald S_X10_define rfl rfl ?_
      refine J_getR S_X10_define rfl (o' := 314) (by assumption) (by omega) rfl ?_
      refine J_C S_X10_define rfl ?_
      refine J_iald S_X10_define rfl (by assumption) (by omega) (j := 1) rfl (by omega) (by decide) ?_
      rw [f314, e1]
      refine J_ist S_X10_define rfl rfl ?_
      refine J_ald S_X10_define rfl rfl ?_
      refine J_getR S_X10_define rfl (o' := 314) (by assumption) (by omega) rfl ?_
      refine J_ild S_X10_define rfl rfl ?_
      refine J_C S_X10_define rfl ?_
      refine J_CSx S_X10_define rfl rfl (by simp) (hv _ 0) rfl ?_
      refine J_ald S_X10_define rfl rfl ?_
      refine J_getI S_X10_define rfl (by assumption) (by omega) ?_
      rw [p14]
      refine J_iast S_X10_define rfl (by assumption) (by omega) (j := 615 + 9 * df + 0) rfl (by omega) (by decide) ?_
      refine J_ald S_X10_define rfl rfl ?_
      refine J_getR S_X10_define rfl (o' := 314) (by assumption) (by omega) rfl ?_
      refine J_ild S_X10_define rfl rfl ?_
      refine J_C S_X10_define rfl ?_
      refine J_CSx S_X10_define rfl rfl (by simp) (hv _ 1) rfl ?_
      refine J_ald S_X10_define rfl rfl ?_
      refine J_getI S_X10_define rfl (by assumption) (by omega) ?_
      rw [n313, p15]
      refine J_iast S_X10_define rfl (by assumption) (by omega) (j := 615 + 9 * df + 1) rfl (by omega) (by decide) ?_
      refine J_ald S_X10_define rfl rfl ?_
      refine J_getR S_X10_define rfl (o' := 314) (by assumption) (by omega) rfl ?_
      refine J_ild S_X10_define rfl rfl ?_
      refine J_C S_X10_define rfl ?_
      refine J_CSx S_X10_define rfl rfl (by simp) (hv _ 2) rfl ?_
      refine J_ald S_X10_define rfl rfl ?_
      refine J_getI S_X10_define rfl (by assumption) (by omega) ?_
      rw [n313, n313, p16]
      refine J_iast S_X10_define rfl (by assumption) (by omega) (j := 615 + 9 * df + 2) rfl (by omega) (by decide) ?_
      refine J_ald S_X10_define rfl rfl ?_
      refine J_getR S_X10_define rfl (o' := 314) (by assumption) (by omega) rfl ?_
      refine J_ild S_X10_define rfl rfl ?_
      refine J_C S_X10_define rfl ?_
      refine J_CSx S_X10_define rfl rfl (by simp) (hv _ 3) rfl ?_
      refine J_ald S_X10_define rfl rfl ?_
      refine J_getI S_X10_define rfl (by assumption) (by omega) ?_
      rw [n313, n313, n313, p17]
      refine J_iast S_X10_define rfl (by assumption) (by omega) (j := 615 + 9 * df + 3) rfl (by omega) (by decide) ?_
      refine J_ald S_X10_define rfl rfl ?_
      refine J_getR S_X10_define rfl (o' := 314) (by assumption) (by omega) rfl ?_
      refine J_ild S_X10_define rfl rfl ?_
      refine J_C S_X10_define rfl ?_
      refine J_CSx S_X10_define rfl rfl (by simp) (hv _ 4) rfl ?_
      refine J_C S_X10_define rfl ?_
      refine J_iast S_X10_define rfl (by assumption) (by omega) (j := 615 + 9 * df + 4) rfl (by omega) (by decide) ?_
      refine J_ald S_X10_define rfl rfl ?_
      refine J_getR S_X10_define rfl (o' := 314) (by assumption) (by omega) rfl ?_
      refine J_ild S_X10_define rfl rfl ?_
      refine J_C S_X10_define rfl ?_
      refine J_CSx S_X10_define rfl rfl (by simp) (hv _ 5) rfl ?_
      refine J_C S_X10_define rfl ?_
      refine J_iast S_X10_define rfl (by assumption) (by omega) (j := 615 + 9 * df + 5) rfl (by omega) (by decide) ?_
      refine J_ald S_X10_define rfl rfl ?_
      refine J_getR S_X10_define rfl (o' := 314) (by assumption) (by omega) rfl ?_
      refine J_ild S_X10_define rfl rfl ?_
      refine J_C S_X10_define rfl ?_
      refine J_CSx S_X10_define rfl rfl (by simp) (hv _ 6) rfl ?_
      refine J_ald S_X10_define rfl rfl ?_
      refine J_getR S_X10_define rfl (o' := 314) (by assumption) (by omega) rfl ?_
      refine J_C S_X10_define rfl ?_
      refine J_iald S_X10_define rfl (by assumption) (by omega) (j := 0) rfl (by omega) (by decide) ?_
      rw [show (mj_up (mj_up (mj_up (mj_up (mj_up (mj_up J2 314 (615 + 9 * df + 0) kd) 314 (615 + 9 * df + 1) tb) 314 (615 + 9 * df + 2) x) 314 (615 + 9 * df + 3) y) 314 (615 + 9 * df + 4) 1) 314 (615 + 9 * df + 5) 0) 314 0 = I 314 0 by simp only [mj_up_eq]; rw [up_n (by omega), up_n (by omega), up_n (by omega), up_n (by omega), up_n (by omega), up_n (by omega), f314]]
      refine J_iast S_X10_define rfl (by assumption) (by omega) (j := 615 + 9 * df + 6) rfl (by omega) (by decide) ?_
      refine J_ald S_X10_define rfl rfl ?_
      refine J_getR S_X10_define rfl (o' := 314) (by assumption) (by omega) rfl ?_
      refine J_ild S_X10_define rfl rfl ?_
      refine J_C S_X10_define rfl ?_
      refine J_CSx S_X10_define rfl rfl (by simp) (hv _ 7) rfl ?_
      refine J_C S_X10_define rfl ?_
      refine J_iast S_X10_define rfl (by assumption) (by omega) (j := 615 + 9 * df + 7) rfl (by omega) (by decide) ?_
      refine J_ald S_X10_define rfl rfl ?_
      refine J_getR S_X10_define rfl (o' := 314) (by assumption) (by omega) rfl ?_
      refine J_ild S_X10_define rfl rfl ?_
      refine J_C S_X10_define rfl ?_
      refine J_CSx S_X10_define rfl rfl (by simp) (hv _ 8) rfl ?_
      refine J_C S_X10_define rfl ?_
      refine J_iast S_X10_define rfl (by assumption) (by omega) (j := 615 + 9 * df + 8) rfl (by omega) (by decide) ?_
      refine J_ald S_X10_define rfl rfl ?_
      refine J_getR S_X10_define rfl (o' := 314) (by assumption) (by omega) rfl ?_
      refine J_C S_X10_define rfl ?_
      refine J_dup2 S_X10_define rfl ?_
      refine J_iald S_X10_define rfl (by assumption) (by omega) (j := 1) rfl (by omega) (by decide) ?_
      refine J_C S_X10_define rfl ?_
      refine J_bin S_X10_define rfl ?_
      rw [show (mj_up (mj_up (mj_up (mj_up (mj_up (mj_up (mj_up (mj_up (mj_up J2 314 (615 + 9 * df + 0) kd) 314 (615 + 9 * df + 1) tb) 314 (615 + 9 * df + 2) x) 314 (615 + 9 * df + 3) y) 314 (615 + 9 * df + 4) 1) 314 (615 + 9 * df + 5) 0) 314 (615 + 9 * df + 6) (I 314 0)) 314 (615 + 9 * df + 7) 0) 314 (615 + 9 * df + 8) 0) 314 1 = nI df by simp only [mj_up_eq]; rw [up_n (by omega), up_n (by omega), up_n (by omega), up_n (by omega), up_n (by omega), up_n (by omega), up_n (by omega), up_n (by omega), up_n (by omega), f314, e1]]
      refine J_iast S_X10_define rfl (by assumption) (by omega) (j := 1) rfl (by omega) (by decide) ?_
      refine J_ild S_X10_define rfl rfl ?_
      refine J_retI S_X10_define rfl ?_
      exact ⟨_, rfl, rfl, hfin⟩
    have n8 : ¬ nI df = 8 := fun c => absurd ((nI_eq (b := 8) (by omega) (by decide)).mp c) (by omega)
    refine J_ild S_X10_define rfl rfl ?_
    refine J_if S_X10_define rfl (fun c96 => ?_) (fun c96 => False.elim (absurd c96 (by decide)))
    refine J_ald S_X10_define rfl rfl ?_
    refine J_getR S_X10_define rfl (o' := 314) (by assumption) (by omega) rfl ?_
    refine J_C S_X10_define rfl ?_
    refine J_iald S_X10_define rfl (by assumption) (by omega) (j := 1) rfl (by omega) (by decide) ?_
    refine J_C S_X10_define rfl ?_
    rw [e314, e1]
    refine J_cmp S_X10_define rfl (fun c110 => ?_) (fun c110 => False.elim (n8 c110))
    refine J_ald S_X10_define rfl rfl ?_
    refine J_CV S_X10_define rfl rfl (by assumption) (by omega) (by simp) (hno J g1) ?_
    rintro _ _ ⟨J2, rfl, rfl, f1, f2, f3⟩
    refine J_ald S_X10_define rfl rfl ?_
    refine J_C S_X10_define rfl ?_
    refine J_putI S_X10_define rfl (by assumption) (by omega) ?_
    rw [e315, e314] at f3
    exact stop _ ⟨fun q a b c => by rw [mj_up_ne a, f1 q a c]; exact g1.1 q a, by rw [mj_up_ne (by decide), f1 314 (by decide) (by decide)]; exact e314, by rw [mj_up_ne (by decide), mj_up_eq, up_n (by decide)]; exact f3, by rw [mj_up_eq, up_s]⟩ (by rw [mj_up_eq, up_n (by decide), f2 14 (by decide)]; exact q14) (by rw [mj_up_eq, up_n (by decide), f2 15 (by decide)]; exact q15) (by rw [mj_up_eq, up_n (by decide), f2 16 (by decide)]; exact q16) (by rw [mj_up_eq, up_n (by decide), f2 17 (by decide)]; exact q17)
  refine J_ald S_X10_define rfl rfl ?_
  refine J_CV S_X10_define rfl rfl (by assumption) (by omega) (by simp) (hrd) ?_
  rintro _ _ ⟨J, rfl, rfl, g1, g2⟩
  obtain ⟨e3, q⟩ := rds_one hL g2 hS
  obtain ⟨q1, q2, q3, q4⟩ := q e3
  refine J_ald S_X10_define rfl rfl ?_
  refine J_getI S_X10_define rfl (by assumption) (by omega) ?_
  rw [e3]
  refine J_if S_X10_define rfl (fun c8 => ?_) (fun c8 => False.elim (absurd c8 (by decide)))
  refine X10_may (g1.1 314 (by decide)) hI q1 q3 q4 ?_
  rw [hm]
  exact tail J _ g1 q1 q2 q3 q4
theorem P_define (h : Rl I) : PRI D_X9_define D_X10_define [] I := by
  have hRl := h
  obtain ⟨o, n, L, hc, h2, h4⟩ := h
  have m0 := s_0
  have m1 := s_1
  have m2 := s_2
  have m4 := mj_S4.1
  have m5 := mj_B5.1
  have m6 : mj_sh 6 = (2, 3) := mj_B5.2.1
  have m52 := s_52
  have m294 := s_294
  have hR : RB I 5 (I 314) := hc.1.1
  have hI : IV (I 314) := hc.1.2.1
  have hZ : ZB (I 314) := hc.1.2.2.1
  have hn : n ≤ 5 := hc.2.1.2.2.2.1
  have hle : tn (I 314 0) ≤ 200 := hI.1.2
  have hL := hc.2.2.1
  obtain ⟨e, kd, tb, x, y, hS⟩ := rds_ex (f := I 316) hL
  by_cases he : e = -1
  · subst he
    cases hm : mayD (I 314) kd x y
    · refine PR_look hRl (X9_define_no hc hS hm) (fun I1 hu => ?_)
      have e := hu 314 (by decide)
      exact X10_define_no hL (by rw [e]; exact hI) (by rw [hu 313 (by decide)]; exact h4) (tb := tb) (by rw [hu 316 (by decide)]; exact hS) (by rw [e]; exact hm)
    · by_cases hd : tn (I 314 1) < 8
      · refine ⟨nI (tn (I 314 1)), fun I1 => AC I I1 n 0 (defV (I 314) kd tb x y), R_imp (X9_define_ok hc hS hm hd) ?_, fun I1 ha => ?_⟩
        · rintro r I1 ⟨g0, g1, g2⟩
          exact ⟨g0, g2, _, g1⟩
        · have hu := ha.1
          have e := hu 314 (by decide)
          have g := X10_define_ok (I := I1) (n := n) hL (by rw [e]; exact hI) (by rw [hu 313 (by decide)]; exact h2) hn (by rw [hu 313 (by decide)]; exact h4) (by rw [hu 316 (by decide)]; exact hS) (by rw [e]; exact hm) (by rw [e]; exact hd)
          rw [e] at g
          refine R_imp g ?_
          rintro r I2 ⟨k0, k1, k2, k3, k4⟩
          exact ⟨k0, Rl_act ha (fun q hq => k1 q (by omega) (by omega) (by omega)) k2 k3 (k4.trans nI_0.symm) (k1 316 (by decide) (by decide) (by decide)) (fun _ _ => rfl)⟩
      · have hd8 : tn (I 314 1) = 8 := by have := hI.2.1.2; omega
        refine PR_look hRl (X9_define_full hc hS hm hd8) (fun I1 hu => ?_)
        have e := hu 314 (by decide)
        exact X10_define_full hL (by rw [e]; exact hI) (by rw [hu 313 (by decide)]; exact h4) (tb := tb) (by rw [hu 316 (by decide)]; exact hS) (by rw [e]; exact hm) (by rw [e]; exact hd8)
  · refine PR_look hRl (X9_define_fault hc hS he) (fun I1 hu => ?_)
    exact X10_define_fault hL (by rw [hu 313 (by decide)]; exact h4) (by rw [hu 316 (by decide)]; exact hS) he
end P9
