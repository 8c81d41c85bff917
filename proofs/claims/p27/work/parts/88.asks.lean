/-! asks -/
theorem ltn_le (f : Nat → Int32) : ∀ n, ltn f n ≤ n
  | 0 => Nat.le_refl 0
  | n + 1 => by
    rw [ltn]
    split
    · exact Nat.le_succ_of_le (ltn_le f n)
    · exact Nat.le_refl _
theorem ltn_eq (f : Nat → Int32) : ∀ n m, ltn f n ≤ m → m ≤ n → f m = f n
  | 0, m, _, h => by
    obtain rfl : m = 0 := by omega
    rfl
  | n + 1, m, h1, h2 => by
    rw [ltn] at h1
    by_cases c : f (n + 1) = f n
    · rw [if_pos c] at h1
      by_cases e : m = n + 1
      · rw [e]
      · rw [c]; exact ltn_eq f n m h1 (by omega)
    · rw [if_neg c] at h1
      obtain rfl : m = n + 1 := by omega
      rfl
theorem ltn_ne (f : Nat → Int32) : ∀ n, ltn f n ≠ 0 → f (ltn f n - 1) ≠ f n
  | 0, h => absurd rfl h
  | n + 1, h => by
    rw [ltn] at h ⊢
    by_cases c : f (n + 1) = f n
    · rw [if_pos c] at h ⊢
      rw [c]; exact ltn_ne f n h
    · rw [if_neg c] at h ⊢
      rw [Nat.add_sub_cancel]
      exact fun e => c e.symm
section Ak
variable {I : mj_I} {w : mv}
theorem less_e {v : mv} (hI : IV v) {k n : Nat} (hk : k < 8) (he : vk v k 4 = 1) (h4 : vk v k 0 = 4) : aq v n k = aq v n (tn (vk v k 2)) - aq v n (tn (vk v k 3)) := by
  rw [aq_aT, aT_eq hI hk he]
  unfold qa
  rw [if_pos h4]
theorem T_asks (h : LKS I w) {k n : Nat} (hk : k < 8) (he : vk w k 4 = 1) (hn : n ≤ tn (w 0)) : mj_R D_L_asks [.inr (some 0), .inl (nI k), .inl (nI n)] (mj_w I) (mj_px (fun r I1 => r = some (.inl 1) ∧ SC I I1)) := by
  have m0 := s_0
  obtain ⟨hR, hI, hZ⟩ := LKS_IV h
  have n0 := hI.1
  have lim := n0.2
  have hw := hI.wv hk he
  have sl := ltn_le (fun n => aq w n k) (tn (w 0))
  have se := ltn_eq (fun n => aq w n k) (tn (w 0))
  have sn := ltn_ne (fun n => aq w n k) (tn (w 0))
  generalize hs : ltn (fun n => aq w n k) (tn (w 0)) = S at sl se sn
  have q0 : vwV w k 0 = vk w k 0 := rfl
  have q2 : vwV w k 2 = vk w k 2 := rfl
  have q3 : vwV w k 3 = vk w k 3 := rfl
  -- from since on
  have tail : ∀ J, SC I J → mj_J D_L_asks (mj_px (fun r I1 => r = some (.inl 1) ∧ SC I I1)) 63 [some (.inr (some 0)), some (.inl (nI k)), some (.inl (nI n)), some (.inl (aq w n k)), none, none, none] [.inl 1] (mj_w J) (0, 0) := by
    intro J hJ
    have a1 := G_since (LKS_sc h hJ) hk he
    rw [hs] at a1
    have a2 := fun J1 (s1 : SC I J1) => G_ask (LKS_sc h s1) hk he (Nat.le_refl (tn (w 0))) (c := 0) (Or.inl rfl)
    have a3 := fun J1 (s1 : SC I J1) => G_ask (LKS_sc h s1) hk he sl (c := 0) (Or.inl rfl)
    have c0 := fun J1 (s1 : SC I J1) => G_c0 (LKS_sc h s1)
    rw [n0.1] at c0
    have eS : aq w S k = aq w (tn (w 0)) k := se S (Nat.le_refl _) sl
    have pS : ¬ nI S < 0 := nI_pos (by omega)
    by_cases z : S = 0
    · by_cases c : S ≤ n
      · have eN : aq w n k = aq w (tn (w 0)) k := se n c hn
        refine J_ist S_L_asks rfl rfl ?_
        refine J_ald S_L_asks rfl rfl ?_
        refine J_ild S_L_asks rfl rfl ?_
        refine J_CV S_L_asks rfl rfl (by assumption) (by omega) (by simp) (a1) ?_
        rintro _ _ ⟨J1, rfl, rfl, s1⟩
        refine J_ist S_L_asks rfl rfl ?_
        refine J_ald S_L_asks rfl rfl ?_
        refine J_ild S_L_asks rfl rfl ?_
        refine J_ald S_L_asks rfl rfl ?_
        refine J_C S_L_asks rfl ?_
        refine J_CVx S_L_asks rfl rfl (by assumption) (by omega) (by simp) (c0 _ (sc_tr hJ s1)) rfl ?_
        refine J_C S_L_asks rfl ?_
        refine J_CV S_L_asks rfl rfl (by assumption) (by omega) (by simp) (a2 _ (sc_tr hJ s1)) ?_
        rintro _ _ ⟨J2, rfl, rfl, s2⟩
        refine J_ist S_L_asks rfl rfl ?_
        refine J_ild S_L_asks rfl rfl ?_
        refine J_if S_L_asks rfl (fun c87 => False.elim (absurd c87 (by decide))) (fun c87 => ?_)
        refine J_ild S_L_asks rfl rfl ?_
        refine J_if S_L_asks rfl (fun c92 => False.elim (pS c92)) (fun c92 => ?_)
        refine J_ild S_L_asks rfl rfl ?_
        refine J_ald S_L_asks rfl rfl ?_
        refine J_C S_L_asks rfl ?_
        refine J_CVx S_L_asks rfl rfl (by assumption) (by omega) (by simp) (c0 _ (sc_tr (sc_tr hJ s1) s2)) rfl ?_
        refine J_cmp S_L_asks rfl (fun c102 => False.elim (nI_nlt sl (by omega) c102)) (fun c102 => ?_)
        refine J_ald S_L_asks rfl rfl ?_
        refine J_ild S_L_asks rfl rfl ?_
        refine J_ild S_L_asks rfl rfl ?_
        refine J_C S_L_asks rfl ?_
        refine J_CV S_L_asks rfl rfl (by assumption) (by omega) (by simp) (a3 _ (sc_tr (sc_tr hJ s1) s2)) ?_
        rintro _ _ ⟨J3, rfl, rfl, s3⟩
        refine J_ild S_L_asks rfl rfl ?_
        refine J_cmp S_L_asks rfl (fun c115 => False.elim (c115 eS)) (fun c115 => ?_)
        refine J_ild S_L_asks rfl rfl ?_
        refine J_if S_L_asks rfl (fun c120 => ?_) (fun c120 => False.elim (c120 (by rw [z]; rfl)))
        refine J_ild S_L_asks rfl rfl ?_
        refine J_ild S_L_asks rfl rfl ?_
        refine J_cmp S_L_asks rfl (fun c141 => False.elim (nI_nlt c (by omega) c141)) (fun c141 => ?_)
        refine J_ild S_L_asks rfl rfl ?_
        refine J_ild S_L_asks rfl rfl ?_
        refine J_cmp S_L_asks rfl (fun c147 => False.elim (c147 eN)) (fun c147 => ?_)
        refine J_C S_L_asks rfl ?_
        refine J_goto S_L_asks rfl ?_
        refine J_retZ S_L_asks rfl (by decide) ?_
        exact ⟨_, rfl, rfl, sc_tr (sc_tr (sc_tr hJ s1) s2) s3⟩
      · refine J_ist S_L_asks rfl rfl ?_
        refine J_ald S_L_asks rfl rfl ?_
        refine J_ild S_L_asks rfl rfl ?_
        refine J_CV S_L_asks rfl rfl (by assumption) (by omega) (by simp) (a1) ?_
        rintro _ _ ⟨J1, rfl, rfl, s1⟩
        refine J_ist S_L_asks rfl rfl ?_
        refine J_ald S_L_asks rfl rfl ?_
        refine J_ild S_L_asks rfl rfl ?_
        refine J_ald S_L_asks rfl rfl ?_
        refine J_C S_L_asks rfl ?_
        refine J_CVx S_L_asks rfl rfl (by assumption) (by omega) (by simp) (c0 _ (sc_tr hJ s1)) rfl ?_
        refine J_C S_L_asks rfl ?_
        refine J_CV S_L_asks rfl rfl (by assumption) (by omega) (by simp) (a2 _ (sc_tr hJ s1)) ?_
        rintro _ _ ⟨J2, rfl, rfl, s2⟩
        refine J_ist S_L_asks rfl rfl ?_
        refine J_ild S_L_asks rfl rfl ?_
        refine J_if S_L_asks rfl (fun c87 => False.elim (absurd c87 (by decide))) (fun c87 => ?_)
        refine J_ild S_L_asks rfl rfl ?_
        refine J_if S_L_asks rfl (fun c92 => False.elim (pS c92)) (fun c92 => ?_)
        refine J_ild S_L_asks rfl rfl ?_
        refine J_ald S_L_asks rfl rfl ?_
        refine J_C S_L_asks rfl ?_
        refine J_CVx S_L_asks rfl rfl (by assumption) (by omega) (by simp) (c0 _ (sc_tr (sc_tr hJ s1) s2)) rfl ?_
        refine J_cmp S_L_asks rfl (fun c102 => False.elim (nI_nlt sl (by omega) c102)) (fun c102 => ?_)
        refine J_ald S_L_asks rfl rfl ?_
        refine J_ild S_L_asks rfl rfl ?_
        refine J_ild S_L_asks rfl rfl ?_
        refine J_C S_L_asks rfl ?_
        refine J_CV S_L_asks rfl rfl (by assumption) (by omega) (by simp) (a3 _ (sc_tr (sc_tr hJ s1) s2)) ?_
        rintro _ _ ⟨J3, rfl, rfl, s3⟩
        refine J_ild S_L_asks rfl rfl ?_
        refine J_cmp S_L_asks rfl (fun c115 => False.elim (c115 eS)) (fun c115 => ?_)
        refine J_ild S_L_asks rfl rfl ?_
        refine J_if S_L_asks rfl (fun c120 => ?_) (fun c120 => False.elim (c120 (by rw [z]; rfl)))
        refine J_ild S_L_asks rfl rfl ?_
        refine J_ild S_L_asks rfl rfl ?_
        refine J_cmp S_L_asks rfl (fun c141 => ?_) (fun c141 => False.elim (c141 (nI_lt (by omega) (by omega))))
        refine J_C S_L_asks rfl ?_
        refine J_goto S_L_asks rfl ?_
        refine J_retZ S_L_asks rfl (by decide) ?_
        exact ⟨_, rfl, rfl, sc_tr (sc_tr (sc_tr hJ s1) s2) s3⟩
    · have nz : ¬ nI S = 0 := nI_ne0 (by omega) (by omega)
      have a4 := fun J1 (s1 : SC I J1) => G_ask (LKS_sc h s1) hk he (n := S - 1) (by omega) (c := 0) (Or.inl rfl)
      have eP : nI S - 1 = nI (S - 1) := pk_sub (a := S) (b := 1) (by omega)
      by_cases c : S ≤ n
      · have eN : aq w n k = aq w (tn (w 0)) k := se n c hn
        refine J_ist S_L_asks rfl rfl ?_
        refine J_ald S_L_asks rfl rfl ?_
        refine J_ild S_L_asks rfl rfl ?_
        refine J_CV S_L_asks rfl rfl (by assumption) (by omega) (by simp) (a1) ?_
        rintro _ _ ⟨J1, rfl, rfl, s1⟩
        refine J_ist S_L_asks rfl rfl ?_
        refine J_ald S_L_asks rfl rfl ?_
        refine J_ild S_L_asks rfl rfl ?_
        refine J_ald S_L_asks rfl rfl ?_
        refine J_C S_L_asks rfl ?_
        refine J_CVx S_L_asks rfl rfl (by assumption) (by omega) (by simp) (c0 _ (sc_tr hJ s1)) rfl ?_
        refine J_C S_L_asks rfl ?_
        refine J_CV S_L_asks rfl rfl (by assumption) (by omega) (by simp) (a2 _ (sc_tr hJ s1)) ?_
        rintro _ _ ⟨J2, rfl, rfl, s2⟩
        refine J_ist S_L_asks rfl rfl ?_
        refine J_ild S_L_asks rfl rfl ?_
        refine J_if S_L_asks rfl (fun c87 => False.elim (absurd c87 (by decide))) (fun c87 => ?_)
        refine J_ild S_L_asks rfl rfl ?_
        refine J_if S_L_asks rfl (fun c92 => False.elim (pS c92)) (fun c92 => ?_)
        refine J_ild S_L_asks rfl rfl ?_
        refine J_ald S_L_asks rfl rfl ?_
        refine J_C S_L_asks rfl ?_
        refine J_CVx S_L_asks rfl rfl (by assumption) (by omega) (by simp) (c0 _ (sc_tr (sc_tr hJ s1) s2)) rfl ?_
        refine J_cmp S_L_asks rfl (fun c102 => False.elim (nI_nlt sl (by omega) c102)) (fun c102 => ?_)
        refine J_ald S_L_asks rfl rfl ?_
        refine J_ild S_L_asks rfl rfl ?_
        refine J_ild S_L_asks rfl rfl ?_
        refine J_C S_L_asks rfl ?_
        refine J_CV S_L_asks rfl rfl (by assumption) (by omega) (by simp) (a3 _ (sc_tr (sc_tr hJ s1) s2)) ?_
        rintro _ _ ⟨J3, rfl, rfl, s3⟩
        refine J_ild S_L_asks rfl rfl ?_
        refine J_cmp S_L_asks rfl (fun c115 => False.elim (c115 eS)) (fun c115 => ?_)
        refine J_ild S_L_asks rfl rfl ?_
        refine J_if S_L_asks rfl (fun c120 => False.elim (nz c120)) (fun c120 => ?_)
        refine J_ald S_L_asks rfl rfl ?_
        refine J_ild S_L_asks rfl rfl ?_
        refine J_ild S_L_asks rfl rfl ?_
        refine J_C S_L_asks rfl ?_
        refine J_bin S_L_asks rfl ?_
        rw [eP]
        refine J_C S_L_asks rfl ?_
        refine J_CV S_L_asks rfl rfl (by assumption) (by omega) (by simp) (a4 _ (sc_tr (sc_tr (sc_tr hJ s1) s2) s3)) ?_
        rintro _ _ ⟨J4, rfl, rfl, s4⟩
        refine J_ild S_L_asks rfl rfl ?_
        refine J_cmp S_L_asks rfl (fun c135 => False.elim (sn z c135)) (fun c135 => ?_)
        refine J_ild S_L_asks rfl rfl ?_
        refine J_ild S_L_asks rfl rfl ?_
        refine J_cmp S_L_asks rfl (fun c141 => False.elim (nI_nlt c (by omega) c141)) (fun c141 => ?_)
        refine J_ild S_L_asks rfl rfl ?_
        refine J_ild S_L_asks rfl rfl ?_
        refine J_cmp S_L_asks rfl (fun c147 => False.elim (c147 eN)) (fun c147 => ?_)
        refine J_C S_L_asks rfl ?_
        refine J_goto S_L_asks rfl ?_
        refine J_retZ S_L_asks rfl (by decide) ?_
        exact ⟨_, rfl, rfl, sc_tr (sc_tr (sc_tr (sc_tr hJ s1) s2) s3) s4⟩
      · refine J_ist S_L_asks rfl rfl ?_
        refine J_ald S_L_asks rfl rfl ?_
        refine J_ild S_L_asks rfl rfl ?_
        refine J_CV S_L_asks rfl rfl (by assumption) (by omega) (by simp) (a1) ?_
        rintro _ _ ⟨J1, rfl, rfl, s1⟩
        refine J_ist S_L_asks rfl rfl ?_
        refine J_ald S_L_asks rfl rfl ?_
        refine J_ild S_L_asks rfl rfl ?_
        refine J_ald S_L_asks rfl rfl ?_
        refine J_C S_L_asks rfl ?_
        refine J_CVx S_L_asks rfl rfl (by assumption) (by omega) (by simp) (c0 _ (sc_tr hJ s1)) rfl ?_
        refine J_C S_L_asks rfl ?_
        refine J_CV S_L_asks rfl rfl (by assumption) (by omega) (by simp) (a2 _ (sc_tr hJ s1)) ?_
        rintro _ _ ⟨J2, rfl, rfl, s2⟩
        refine J_ist S_L_asks rfl rfl ?_
        refine J_ild S_L_asks rfl rfl ?_
        refine J_if S_L_asks rfl (fun c87 => False.elim (absurd c87 (by decide))) (fun c87 => ?_)
        refine J_ild S_L_asks rfl rfl ?_
        refine J_if S_L_asks rfl (fun c92 => False.elim (pS c92)) (fun c92 => ?_)
        refine J_ild S_L_asks rfl rfl ?_
        refine J_ald S_L_asks rfl rfl ?_
        refine J_C S_L_asks rfl ?_
        refine J_CVx S_L_asks rfl rfl (by assumption) (by omega) (by simp) (c0 _ (sc_tr (sc_tr hJ s1) s2)) rfl ?_
        refine J_cmp S_L_asks rfl (fun c102 => False.elim (nI_nlt sl (by omega) c102)) (fun c102 => ?_)
        refine J_ald S_L_asks rfl rfl ?_
        refine J_ild S_L_asks rfl rfl ?_
        refine J_ild S_L_asks rfl rfl ?_
        refine J_C S_L_asks rfl ?_
        refine J_CV S_L_asks rfl rfl (by assumption) (by omega) (by simp) (a3 _ (sc_tr (sc_tr hJ s1) s2)) ?_
        rintro _ _ ⟨J3, rfl, rfl, s3⟩
        refine J_ild S_L_asks rfl rfl ?_
        refine J_cmp S_L_asks rfl (fun c115 => False.elim (c115 eS)) (fun c115 => ?_)
        refine J_ild S_L_asks rfl rfl ?_
        refine J_if S_L_asks rfl (fun c120 => False.elim (nz c120)) (fun c120 => ?_)
        refine J_ald S_L_asks rfl rfl ?_
        refine J_ild S_L_asks rfl rfl ?_
        refine J_ild S_L_asks rfl rfl ?_
        refine J_C S_L_asks rfl ?_
        refine J_bin S_L_asks rfl ?_
        rw [eP]
        refine J_C S_L_asks rfl ?_
        refine J_CV S_L_asks rfl rfl (by assumption) (by omega) (by simp) (a4 _ (sc_tr (sc_tr (sc_tr hJ s1) s2) s3)) ?_
        rintro _ _ ⟨J4, rfl, rfl, s4⟩
        refine J_ild S_L_asks rfl rfl ?_
        refine J_cmp S_L_asks rfl (fun c135 => False.elim (sn z c135)) (fun c135 => ?_)
        refine J_ild S_L_asks rfl rfl ?_
        refine J_ild S_L_asks rfl rfl ?_
        refine J_cmp S_L_asks rfl (fun c141 => ?_) (fun c141 => False.elim (c141 (nI_lt (by omega) (by omega))))
        refine J_C S_L_asks rfl ?_
        refine J_goto S_L_asks rfl ?_
        refine J_retZ S_L_asks rfl (by decide) ?_
        exact ⟨_, rfl, rfl, sc_tr (sc_tr (sc_tr (sc_tr hJ s1) s2) s3) s4⟩
  have b1 := fun J1 (s1 : SC I J1) => G_ask (LKS_sc h s1) hk he hn (c := 1) (Or.inr rfl)
  have b0 := G_ask h hk he hn (c := 0) (Or.inl rfl)
  have v0 := fun J1 (s1 : SC I J1) => G_v (LKS_sc h s1) hk he (j := 0) (by decide)
  have v2 := fun J1 (s1 : SC I J1) => G_v (LKS_sc h s1) hk he (j := 2) (by decide)
  have v3 := fun J1 (s1 : SC I J1) => G_v (LKS_sc h s1) hk he (j := 3) (by decide)
  rw [q0] at v0
  rw [q2, hw.2.2.2.2.1.1] at v2
  rw [q3, hw.2.2.2.2.2.1.1] at v3
  refine mj_enter (by decide +kernel) (Nat.le_of_ble_eq_true rfl) ?_
  by_cases h4 : vk w k 0 = 4
  · rw [h4] at v0
    obtain ⟨x2, x3⟩ := hw.2.2.2.2.2.2.1 h4
    obtain ⟨y2, y3⟩ := hw.2.2.2.2.2.2.2.2.1 he h4
    have d2 := fun J1 (s1 : SC I J1) => G_ask (LKS_sc h s1) (show tn (vk w k 2) < 8 by omega) y2 hn (c := 0) (Or.inl rfl)
    have d3 := fun J1 (s1 : SC I J1) => G_ask (LKS_sc h s1) (show tn (vk w k 3) < 8 by omega) y3 hn (c := 1) (Or.inr rfl)
    have le := less_e hI hk he (n := n) h4
    refine J_ald S_L_asks rfl rfl ?_
    refine J_ild S_L_asks rfl rfl ?_
    refine J_ild S_L_asks rfl rfl ?_
    refine J_C S_L_asks rfl ?_
    refine J_CV S_L_asks rfl rfl (by assumption) (by omega) (by simp) (b0) ?_
    rintro _ _ ⟨J1, rfl, rfl, s1⟩
    refine J_ist S_L_asks rfl rfl ?_
    refine J_ald S_L_asks rfl rfl ?_
    refine J_ild S_L_asks rfl rfl ?_
    refine J_ild S_L_asks rfl rfl ?_
    refine J_C S_L_asks rfl ?_
    refine J_CV S_L_asks rfl rfl (by assumption) (by omega) (by simp) (b1 _ s1) ?_
    rintro _ _ ⟨J2, rfl, rfl, s2⟩
    refine J_ild S_L_asks rfl rfl ?_
    refine J_cmp S_L_asks rfl (fun c16 => False.elim (c16 rfl)) (fun c16 => ?_)
    refine J_ald S_L_asks rfl rfl ?_
    refine J_ild S_L_asks rfl rfl ?_
    refine J_C S_L_asks rfl ?_
    refine J_CVx S_L_asks rfl rfl (by assumption) (by omega) (by simp) (v0 _ (sc_tr s1 s2)) rfl ?_
    refine J_C S_L_asks rfl ?_
    refine J_cmp S_L_asks rfl (fun c26 => False.elim (absurd c26 (by decide))) (fun c26 => ?_)
    refine J_ild S_L_asks rfl rfl ?_
    refine J_ald S_L_asks rfl rfl ?_
    refine J_ald S_L_asks rfl rfl ?_
    refine J_ild S_L_asks rfl rfl ?_
    refine J_C S_L_asks rfl ?_
    refine J_CVx S_L_asks rfl rfl (by assumption) (by omega) (by simp) (v2 _ (sc_tr s1 s2)) rfl ?_
    refine J_ild S_L_asks rfl rfl ?_
    refine J_C S_L_asks rfl ?_
    refine J_CV S_L_asks rfl rfl (by assumption) (by omega) (by simp) (d2 _ (sc_tr s1 s2)) ?_
    rintro _ _ ⟨J3, rfl, rfl, s3⟩
    refine J_ald S_L_asks rfl rfl ?_
    refine J_ald S_L_asks rfl rfl ?_
    refine J_ild S_L_asks rfl rfl ?_
    refine J_C S_L_asks rfl ?_
    refine J_CVx S_L_asks rfl rfl (by assumption) (by omega) (by simp) (v3 _ (sc_tr (sc_tr s1 s2) s3)) rfl ?_
    refine J_ild S_L_asks rfl rfl ?_
    refine J_C S_L_asks rfl ?_
    refine J_CV S_L_asks rfl rfl (by assumption) (by omega) (by simp) (d3 _ (sc_tr (sc_tr s1 s2) s3)) ?_
    rintro _ _ ⟨J4, rfl, rfl, s4⟩
    refine J_bin S_L_asks rfl ?_
    refine J_cmp S_L_asks rfl (fun c55 => False.elim (c55 le)) (fun c55 => ?_)
    refine J_C S_L_asks rfl ?_
    refine J_goto S_L_asks rfl ?_
    exact tail _ (sc_tr (sc_tr (sc_tr s1 s2) s3) s4)
  · have lt : vk w k 0 < 4 := by
      have e := hw.2.1
      rw [e.1]
      refine nI_lt (b := 4) ?_ (by decide)
      have g : ¬ tn (vk w k 0) = 4 := fun q => h4 (by rw [e.1, q]; rfl)
      have := e.2
      omega
    refine J_ald S_L_asks rfl rfl ?_
    refine J_ild S_L_asks rfl rfl ?_
    refine J_ild S_L_asks rfl rfl ?_
    refine J_C S_L_asks rfl ?_
    refine J_CV S_L_asks rfl rfl (by assumption) (by omega) (by simp) (b0) ?_
    rintro _ _ ⟨J1, rfl, rfl, s1⟩
    refine J_ist S_L_asks rfl rfl ?_
    refine J_ald S_L_asks rfl rfl ?_
    refine J_ild S_L_asks rfl rfl ?_
    refine J_ild S_L_asks rfl rfl ?_
    refine J_C S_L_asks rfl ?_
    refine J_CV S_L_asks rfl rfl (by assumption) (by omega) (by simp) (b1 _ s1) ?_
    rintro _ _ ⟨J2, rfl, rfl, s2⟩
    refine J_ild S_L_asks rfl rfl ?_
    refine J_cmp S_L_asks rfl (fun c16 => False.elim (c16 rfl)) (fun c16 => ?_)
    refine J_ald S_L_asks rfl rfl ?_
    refine J_ild S_L_asks rfl rfl ?_
    refine J_C S_L_asks rfl ?_
    refine J_CVx S_L_asks rfl rfl (by assumption) (by omega) (by simp) (v0 _ (sc_tr s1 s2)) rfl ?_
    refine J_C S_L_asks rfl ?_
    refine J_cmp S_L_asks rfl (fun c26 => ?_) (fun c26 => False.elim (c26 lt))
    refine J_C S_L_asks rfl ?_
    refine J_goto S_L_asks rfl ?_
    exact tail _ (sc_tr s1 s2)
end Ak
