/-! holds -/
theorem sh_0 : ∀ c, c < 31 → (0 : Int32) <<< (nI c &&& 31) = 0 := by decide
theorem or_0 (x : Int32) : x ||| 0 = x := by simp
section Ho
variable {I : mj_I} {w : mv}
theorem T_holds (h : LKS I w) (ha : AK w) : mj_R D_L_holds [.inr (some 0)] (mj_w I) (mj_px (fun r I1 => r = some (.inl 1) ∧ SC I I1)) := by
  have m0 := s_0
  obtain ⟨hR, hI, hZ⟩ := LKS_IV h
  have n1 := hI.2.1
  have d8 : tn (w 1) ≤ 8 := n1.2
  have fin : ∀ J, SC I J → mj_J D_L_holds (mj_px (fun r I1 => r = some (.inl 1) ∧ SC I I1)) 152 [some (.inr (some 0)), some (.inl (sm (ex w) (fun k => vk w k 7) (tn (w 1)))), some (.inl (sm (ex w) (need w) (tn (w 1)))), some (.inl (nI (msk (fun k => ex w k && bel w 3 k) (tn (w 1))))), some (.inl (nI (msk (fun k => ex w k && bel w 1 k) (tn (w 1))))), some (.inl 1), some (.inl (nI (tn (w 1))))] [] (mj_w J) (0, 0) := by
    intro J hJ
    have hl := LKS_sc h hJ
    have hb := C_L_bits (I := J) (m := msk (fun k => ex w k && bel w 0 k) 8) (msk_lt _ 8)
    have hn := X9_needed_ok (LKS_IV hl).1 hI
    refine J_ild S_L_holds rfl rfl ?_
    refine J_if S_L_holds rfl (fun c154 => False.elim (absurd c154 (by decide))) (fun c154 => ?_)
    refine J_ald S_L_holds rfl rfl ?_
    refine J_C S_L_holds rfl ?_
    refine J_CVx S_L_holds rfl rfl (by assumption) (by omega) (by simp) (G_c1 hl) rfl ?_
    refine J_ald S_L_holds rfl rfl ?_
    refine J_C S_L_holds rfl ?_
    refine J_CVx S_L_holds rfl rfl (by assumption) (by omega) (by simp) (G_c3 hl) rfl ?_
    refine J_CSx S_L_holds rfl rfl (by simp) (hb) rfl ?_
    refine J_cmp S_L_holds rfl (fun c170 => False.elim (c170 (bc_nV hI).symm)) (fun c170 => ?_)
    refine J_ald S_L_holds rfl rfl ?_
    refine J_C S_L_holds rfl ?_
    refine J_CVx S_L_holds rfl rfl (by assumption) (by omega) (by simp) (G_c4 hl) rfl ?_
    refine J_ild S_L_holds rfl rfl ?_
    refine J_cmp S_L_holds rfl (fun c180 => False.elim (c180 (congrArg nI (lk_tl hI _)))) (fun c180 => ?_)
    refine J_ald S_L_holds rfl rfl ?_
    refine J_C S_L_holds rfl ?_
    refine J_CVx S_L_holds rfl rfl (by assumption) (by omega) (by simp) (G_c5 hl) rfl ?_
    refine J_ild S_L_holds rfl rfl ?_
    refine J_cmp S_L_holds rfl (fun c189 => False.elim (c189 (congrArg nI (lk_tl hI _)))) (fun c189 => ?_)
    refine J_ald S_L_holds rfl rfl ?_
    refine J_C S_L_holds rfl ?_
    refine J_CVx S_L_holds rfl rfl (by assumption) (by omega) (by simp) (G_c12 hl) rfl ?_
    refine J_ild S_L_holds rfl rfl ?_
    refine J_cmp S_L_holds rfl (fun c199 => False.elim (c199 (sm_tl hI _))) (fun c199 => ?_)
    refine J_ald S_L_holds rfl rfl ?_
    refine J_CVx S_L_holds rfl rfl (by assumption) (by omega) (by simp) (hn) rfl ?_
    refine J_ild S_L_holds rfl rfl ?_
    refine J_cmp S_L_holds rfl (fun c207 => False.elim (c207 (sm_tl hI _))) (fun c207 => ?_)
    refine J_C S_L_holds rfl ?_
    refine J_goto S_L_holds rfl ?_
    refine J_ist S_L_holds rfl rfl ?_
    refine J_ild S_L_holds rfl rfl ?_
    refine J_if S_L_holds rfl (fun c219 => False.elim (absurd c219 (by decide))) (fun c219 => ?_)
    refine J_ald S_L_holds rfl rfl ?_
    refine J_C S_L_holds rfl ?_
    refine J_CVx S_L_holds rfl rfl (by assumption) (by omega) (by simp) (G_c7 hl) rfl ?_
    refine J_ald S_L_holds rfl rfl ?_
    refine J_C S_L_holds rfl ?_
    refine J_CVx S_L_holds rfl rfl (by assumption) (by omega) (by simp) (G_c6 hl) rfl ?_
    refine J_ald S_L_holds rfl rfl ?_
    refine J_C S_L_holds rfl ?_
    refine J_CVx S_L_holds rfl rfl (by assumption) (by omega) (by simp) (G_c8 hl) rfl ?_
    refine J_bin S_L_holds rfl ?_
    refine J_ald S_L_holds rfl rfl ?_
    refine J_C S_L_holds rfl ?_
    refine J_CVx S_L_holds rfl rfl (by assumption) (by omega) (by simp) (G_c9 hl) rfl ?_
    refine J_bin S_L_holds rfl ?_
    refine J_ald S_L_holds rfl rfl ?_
    refine J_C S_L_holds rfl ?_
    refine J_CVx S_L_holds rfl rfl (by assumption) (by omega) (by simp) (G_c10 hl) rfl ?_
    refine J_bin S_L_holds rfl ?_
    refine J_cmp S_L_holds rfl (fun c255 => False.elim (c255 ha)) (fun c255 => ?_)
    refine J_C S_L_holds rfl ?_
    refine J_goto S_L_holds rfl ?_
    refine J_retZ S_L_holds rfl (by decide) ?_
    exact ⟨_, rfl, rfl, hJ⟩
  have key : ∀ (s k : Nat) (J : mj_I), k + s = tn (w 1) → SC I J → mj_J D_L_holds (mj_px (fun r I1 => r = some (.inl 1) ∧ SC I I1)) 15 [some (.inr (some 0)), some (.inl (sm (ex w) (fun k => vk w k 7) k)), some (.inl (sm (ex w) (need w) k)), some (.inl (nI (msk (fun k => ex w k && bel w 3 k) k))), some (.inl (nI (msk (fun k => ex w k && bel w 1 k) k))), some (.inl 1), some (.inl (nI k))] [] (mj_w J) (0, 0) := by
    intro s
    induction s with
    | zero =>
      intro k J hk hJ
      obtain rfl : k = tn (w 1) := by omega
      have hl := LKS_sc h hJ
      have h2 := G_c2 hl
      rw [n1.1] at h2
      refine J_ild S_L_holds rfl rfl ?_
      refine J_ald S_L_holds rfl rfl ?_
      refine J_C S_L_holds rfl ?_
      refine J_CVx S_L_holds rfl rfl (by assumption) (by omega) (by simp) (h2) rfl ?_
      refine J_cmp S_L_holds rfl (fun c22 => ?_) (fun c22 => False.elim (c22 (Int32.le_refl _)))
      exact fin J hJ
    | succ s ih =>
      intro k J hks hJ
      have hk : k < 8 := by omega
      have hl := LKS_sc h hJ
      have h2 := G_c2 hl
      rw [n1.1] at h2
      have h3 := G_c3 hl
      have hm : msk (fun q => ex w q && bel w 0 q) 8 < 2 ^ 31 := Nat.lt_trans (msk_lt _ 8) (by decide)
      have hh := C_L_has (I := J) hm (i := k) (by omega)
      rw [msk_bit, decide_eq_true hk, Bool.true_and, show bel w 0 k = true from rfl, Bool.and_true] at hh
      have hlt : k < tn (w 1) := by omega
      have eI : nI k + 1 = nI (k + 1) := nI_add k 1
      have tL := tk_msk (fun q => ex w q && bel w 3 q) (k := k) (by omega)
      have tB := tk_msk (fun q => ex w q && bel w 1 q) (k := k) (by omega)
      rcases hI.b01 hk with he | he
      · have xe := ex_f he
        rw [xe] at hh
        have hv := X9_view_no (I := J) (LKS_IV hl).1 hI (a := nI k) (b := nI 0) (fun q => by rw [isV_nI hk, xe] at q; exact absurd q.1 (by decide))
        simp only [xe, Bool.false_and, Bool.false_eq_true, if_false] at tL tB
        rw [or_0] at tL tB
        have eD : sm (ex w) (fun k => vk w k 7) (k + 1) = sm (ex w) (fun k => vk w k 7) k := by rw [sm, if_neg (by rw [xe]; decide)]
        have eN : sm (ex w) (need w) (k + 1) = sm (ex w) (need w) k := by rw [sm, if_neg (by rw [xe]; decide)]
        have g := ih (k + 1) J (by omega) hJ
        rw [eD, eN, ← tL, ← tB] at g
        refine J_ild S_L_holds rfl rfl ?_
        refine J_ald S_L_holds rfl rfl ?_
        refine J_C S_L_holds rfl ?_
        refine J_CVx S_L_holds rfl rfl (by assumption) (by omega) (by simp) (h2) rfl ?_
        refine J_cmp S_L_holds rfl (fun c22 => False.elim (nI_ge hlt (by omega) c22)) (fun c22 => ?_)
        refine J_ild S_L_holds rfl rfl ?_
        refine J_if S_L_holds rfl (fun c27 => False.elim (absurd c27 (by decide))) (fun c27 => ?_)
        refine J_ald S_L_holds rfl rfl ?_
        refine J_C S_L_holds rfl ?_
        refine J_CVx S_L_holds rfl rfl (by assumption) (by omega) (by simp) (h3) rfl ?_
        refine J_ild S_L_holds rfl rfl ?_
        refine J_CSx S_L_holds rfl rfl (by simp) (hh) rfl ?_
        refine J_if S_L_holds rfl (fun c40 => False.elim (c40 rfl)) (fun c40 => ?_)
        refine J_ald S_L_holds rfl rfl ?_
        refine J_ild S_L_holds rfl rfl ?_
        refine J_C S_L_holds rfl ?_
        refine J_CVx S_L_holds rfl rfl (by assumption) (by omega) (by simp) (hv) rfl ?_
        refine J_C S_L_holds rfl ?_
        refine J_cmp S_L_holds rfl (fun c52 => False.elim (c52 rfl)) (fun c52 => ?_)
        refine J_C S_L_holds rfl ?_
        refine J_goto S_L_holds rfl ?_
        refine J_ist S_L_holds rfl rfl ?_
        refine J_goto S_L_holds rfl ?_
        refine J_inc S_L_holds rfl rfl rfl ?_
        refine J_goto S_L_holds rfl ?_
        rw [eI]
        exact g
      · have xe := ex_t he
        rw [xe] at hh
        simp only [xe, Bool.true_and] at tL tB
        have eD : sm (ex w) (fun k => vk w k 7) (k + 1) = sm (ex w) (fun k => vk w k 7) k + vk w k 7 := by rw [sm, if_pos xe]
        have eN : sm (ex w) (need w) (k + 1) = sm (ex w) (need w) k + need w k := by rw [sm, if_pos xe]
        have v4 := G_v hl hk he (j := 4) (by decide)
        have v6 := G_v hl hk he (j := 6) (by decide)
        have v7 := G_v hl hk he (j := 7) (by decide)
        have v8 := G_v hl hk he (j := 8) (by decide)
        rw [show vwV w k 4 = vk w k 5 from rfl] at v4
        rw [show vwV w k 6 = nI (arr w k) from rfl] at v6
        rw [show vwV w k 7 = vk w k 7 from rfl] at v7
        rw [show vwV w k 8 = need w k from rfl] at v8
        have ar := arr_le w k
        have a2 := hI.1.2
        have g := fun J1 hJ1 => ih (k + 1) J1 (by omega) hJ1
        rw [eD, eN, ← tL, ← tB] at g
        rcases rg_01 (hI.wv hk he).2.2.2.2.2.2.2.2.2.1 with h5 | h5
        · rw [h5] at v4
          rw [show bel w 1 k = false from decide_eq_false (by rw [h5]; decide), if_neg (show ¬ false = true by decide)] at g
          by_cases c : 0 < arr w k
          · rw [show bel w 3 k = true from decide_eq_true c, if_pos (show true = true from rfl)] at g
            refine J_ild S_L_holds rfl rfl ?_
            refine J_ald S_L_holds rfl rfl ?_
            refine J_C S_L_holds rfl ?_
            refine J_CVx S_L_holds rfl rfl (by assumption) (by omega) (by simp) (h2) rfl ?_
            refine J_cmp S_L_holds rfl (fun c22 => False.elim (nI_ge hlt (by omega) c22)) (fun c22 => ?_)
            refine J_ild S_L_holds rfl rfl ?_
            refine J_if S_L_holds rfl (fun c27 => False.elim (absurd c27 (by decide))) (fun c27 => ?_)
            refine J_ald S_L_holds rfl rfl ?_
            refine J_C S_L_holds rfl ?_
            refine J_CVx S_L_holds rfl rfl (by assumption) (by omega) (by simp) (h3) rfl ?_
            refine J_ild S_L_holds rfl rfl ?_
            refine J_CSx S_L_holds rfl rfl (by simp) (hh) rfl ?_
            refine J_if S_L_holds rfl (fun c40 => ?_) (fun c40 => False.elim (absurd c40 (by decide)))
            refine J_ild S_L_holds rfl rfl ?_
            refine J_ald S_L_holds rfl rfl ?_
            refine J_ild S_L_holds rfl rfl ?_
            refine J_C S_L_holds rfl ?_
            refine J_CVx S_L_holds rfl rfl (by assumption) (by omega) (by simp) (v7) rfl ?_
            refine J_bin S_L_holds rfl ?_
            refine J_ist S_L_holds rfl rfl ?_
            refine J_ild S_L_holds rfl rfl ?_
            refine J_ald S_L_holds rfl rfl ?_
            refine J_ild S_L_holds rfl rfl ?_
            refine J_C S_L_holds rfl ?_
            refine J_CVx S_L_holds rfl rfl (by assumption) (by omega) (by simp) (v6) rfl ?_
            refine J_if S_L_holds rfl (fun c85 => False.elim (nI_ge (a := 0) c (by omega) c85)) (fun c85 => ?_)
            refine J_C S_L_holds rfl ?_
            refine J_ild S_L_holds rfl rfl ?_
            refine J_bin S_L_holds rfl ?_
            refine J_goto S_L_holds rfl ?_
            refine J_bin S_L_holds rfl ?_
            refine J_ist S_L_holds rfl rfl ?_
            refine J_ild S_L_holds rfl rfl ?_
            refine J_ald S_L_holds rfl rfl ?_
            refine J_ild S_L_holds rfl rfl ?_
            refine J_C S_L_holds rfl ?_
            refine J_CVx S_L_holds rfl rfl (by assumption) (by omega) (by simp) (v4) rfl ?_
            refine J_ild S_L_holds rfl rfl ?_
            refine J_bin S_L_holds rfl ?_
            refine J_bin S_L_holds rfl ?_
            refine J_ist S_L_holds rfl rfl ?_
            refine J_ild S_L_holds rfl rfl ?_
            refine J_ald S_L_holds rfl rfl ?_
            refine J_ild S_L_holds rfl rfl ?_
            refine J_C S_L_holds rfl ?_
            refine J_CVx S_L_holds rfl rfl (by assumption) (by omega) (by simp) (v4) rfl ?_
            refine J_if S_L_holds rfl (fun c121 => False.elim (c121 rfl)) (fun c121 => ?_)
            refine J_ald S_L_holds rfl rfl ?_
            refine J_ild S_L_holds rfl rfl ?_
            refine J_C S_L_holds rfl ?_
            refine J_CVx S_L_holds rfl rfl (by assumption) (by omega) (by simp) (v8) rfl ?_
            refine J_goto S_L_holds rfl ?_
            refine J_bin S_L_holds rfl ?_
            refine J_ist S_L_holds rfl rfl ?_
            refine J_ald S_L_holds rfl rfl ?_
            refine J_ild S_L_holds rfl rfl ?_
            refine J_CS S_L_holds rfl rfl (by simp) (T_viewHolds hl hk he) ?_
            rintro _ _ ⟨J1, rfl, rfl, s1⟩
            refine J_ist S_L_holds rfl rfl ?_
            refine J_inc S_L_holds rfl rfl rfl ?_
            refine J_goto S_L_holds rfl ?_
            rw [eI, sh_0 k (by omega)]
            exact g J1 (sc_tr hJ s1)
          · rw [show bel w 3 k = false from decide_eq_false c, if_neg (show ¬ false = true by decide)] at g
            refine J_ild S_L_holds rfl rfl ?_
            refine J_ald S_L_holds rfl rfl ?_
            refine J_C S_L_holds rfl ?_
            refine J_CVx S_L_holds rfl rfl (by assumption) (by omega) (by simp) (h2) rfl ?_
            refine J_cmp S_L_holds rfl (fun c22 => False.elim (nI_ge hlt (by omega) c22)) (fun c22 => ?_)
            refine J_ild S_L_holds rfl rfl ?_
            refine J_if S_L_holds rfl (fun c27 => False.elim (absurd c27 (by decide))) (fun c27 => ?_)
            refine J_ald S_L_holds rfl rfl ?_
            refine J_C S_L_holds rfl ?_
            refine J_CVx S_L_holds rfl rfl (by assumption) (by omega) (by simp) (h3) rfl ?_
            refine J_ild S_L_holds rfl rfl ?_
            refine J_CSx S_L_holds rfl rfl (by simp) (hh) rfl ?_
            refine J_if S_L_holds rfl (fun c40 => ?_) (fun c40 => False.elim (absurd c40 (by decide)))
            refine J_ild S_L_holds rfl rfl ?_
            refine J_ald S_L_holds rfl rfl ?_
            refine J_ild S_L_holds rfl rfl ?_
            refine J_C S_L_holds rfl ?_
            refine J_CVx S_L_holds rfl rfl (by assumption) (by omega) (by simp) (v7) rfl ?_
            refine J_bin S_L_holds rfl ?_
            refine J_ist S_L_holds rfl rfl ?_
            refine J_ild S_L_holds rfl rfl ?_
            refine J_ald S_L_holds rfl rfl ?_
            refine J_ild S_L_holds rfl rfl ?_
            refine J_C S_L_holds rfl ?_
            refine J_CVx S_L_holds rfl rfl (by assumption) (by omega) (by simp) (v6) rfl ?_
            refine J_if S_L_holds rfl (fun c85 => ?_) (fun c85 => False.elim (c85 (nI_le (b := 0) (by omega) (by decide))))
            refine J_C S_L_holds rfl ?_
            refine J_bin S_L_holds rfl ?_
            refine J_ist S_L_holds rfl rfl ?_
            refine J_ild S_L_holds rfl rfl ?_
            refine J_ald S_L_holds rfl rfl ?_
            refine J_ild S_L_holds rfl rfl ?_
            refine J_C S_L_holds rfl ?_
            refine J_CVx S_L_holds rfl rfl (by assumption) (by omega) (by simp) (v4) rfl ?_
            refine J_ild S_L_holds rfl rfl ?_
            refine J_bin S_L_holds rfl ?_
            refine J_bin S_L_holds rfl ?_
            refine J_ist S_L_holds rfl rfl ?_
            refine J_ild S_L_holds rfl rfl ?_
            refine J_ald S_L_holds rfl rfl ?_
            refine J_ild S_L_holds rfl rfl ?_
            refine J_C S_L_holds rfl ?_
            refine J_CVx S_L_holds rfl rfl (by assumption) (by omega) (by simp) (v4) rfl ?_
            refine J_if S_L_holds rfl (fun c121 => False.elim (c121 rfl)) (fun c121 => ?_)
            refine J_ald S_L_holds rfl rfl ?_
            refine J_ild S_L_holds rfl rfl ?_
            refine J_C S_L_holds rfl ?_
            refine J_CVx S_L_holds rfl rfl (by assumption) (by omega) (by simp) (v8) rfl ?_
            refine J_goto S_L_holds rfl ?_
            refine J_bin S_L_holds rfl ?_
            refine J_ist S_L_holds rfl rfl ?_
            refine J_ald S_L_holds rfl rfl ?_
            refine J_ild S_L_holds rfl rfl ?_
            refine J_CS S_L_holds rfl rfl (by simp) (T_viewHolds hl hk he) ?_
            rintro _ _ ⟨J1, rfl, rfl, s1⟩
            refine J_ist S_L_holds rfl rfl ?_
            refine J_inc S_L_holds rfl rfl rfl ?_
            refine J_goto S_L_holds rfl ?_
            rw [eI, sh_0 k (by omega)]
            exact g J1 (sc_tr hJ s1)
        · rw [h5] at v4
          rw [show bel w 1 k = true from decide_eq_true h5, if_pos (show true = true from rfl)] at g
          have az : arr w k = 0 := if_pos h5
          rw [show bel w 3 k = false from decide_eq_false (by omega), if_neg (show ¬ false = true by decide), need_bk hZ hk he h5] at g
          refine J_ild S_L_holds rfl rfl ?_
          refine J_ald S_L_holds rfl rfl ?_
          refine J_C S_L_holds rfl ?_
          refine J_CVx S_L_holds rfl rfl (by assumption) (by omega) (by simp) (h2) rfl ?_
          refine J_cmp S_L_holds rfl (fun c22 => False.elim (nI_ge hlt (by omega) c22)) (fun c22 => ?_)
          refine J_ild S_L_holds rfl rfl ?_
          refine J_if S_L_holds rfl (fun c27 => False.elim (absurd c27 (by decide))) (fun c27 => ?_)
          refine J_ald S_L_holds rfl rfl ?_
          refine J_C S_L_holds rfl ?_
          refine J_CVx S_L_holds rfl rfl (by assumption) (by omega) (by simp) (h3) rfl ?_
          refine J_ild S_L_holds rfl rfl ?_
          refine J_CSx S_L_holds rfl rfl (by simp) (hh) rfl ?_
          refine J_if S_L_holds rfl (fun c40 => ?_) (fun c40 => False.elim (absurd c40 (by decide)))
          refine J_ild S_L_holds rfl rfl ?_
          refine J_ald S_L_holds rfl rfl ?_
          refine J_ild S_L_holds rfl rfl ?_
          refine J_C S_L_holds rfl ?_
          refine J_CVx S_L_holds rfl rfl (by assumption) (by omega) (by simp) (v7) rfl ?_
          refine J_bin S_L_holds rfl ?_
          refine J_ist S_L_holds rfl rfl ?_
          refine J_ild S_L_holds rfl rfl ?_
          refine J_ald S_L_holds rfl rfl ?_
          refine J_ild S_L_holds rfl rfl ?_
          refine J_C S_L_holds rfl ?_
          refine J_CVx S_L_holds rfl rfl (by assumption) (by omega) (by simp) (v6) rfl ?_
          refine J_if S_L_holds rfl (fun c85 => ?_) (fun c85 => False.elim (c85 (nI_le (b := 0) (by omega) (by decide))))
          refine J_C S_L_holds rfl ?_
          refine J_bin S_L_holds rfl ?_
          refine J_ist S_L_holds rfl rfl ?_
          refine J_ild S_L_holds rfl rfl ?_
          refine J_ald S_L_holds rfl rfl ?_
          refine J_ild S_L_holds rfl rfl ?_
          refine J_C S_L_holds rfl ?_
          refine J_CVx S_L_holds rfl rfl (by assumption) (by omega) (by simp) (v4) rfl ?_
          refine J_ild S_L_holds rfl rfl ?_
          refine J_bin S_L_holds rfl ?_
          refine J_bin S_L_holds rfl ?_
          refine J_ist S_L_holds rfl rfl ?_
          refine J_ild S_L_holds rfl rfl ?_
          refine J_ald S_L_holds rfl rfl ?_
          refine J_ild S_L_holds rfl rfl ?_
          refine J_C S_L_holds rfl ?_
          refine J_CVx S_L_holds rfl rfl (by assumption) (by omega) (by simp) (v4) rfl ?_
          refine J_if S_L_holds rfl (fun c121 => ?_) (fun c121 => False.elim (absurd c121 (by decide)))
          refine J_C S_L_holds rfl ?_
          refine J_bin S_L_holds rfl ?_
          refine J_ist S_L_holds rfl rfl ?_
          refine J_ald S_L_holds rfl rfl ?_
          refine J_ild S_L_holds rfl rfl ?_
          refine J_CS S_L_holds rfl rfl (by simp) (T_viewHolds hl hk he) ?_
          rintro _ _ ⟨J1, rfl, rfl, s1⟩
          refine J_ist S_L_holds rfl rfl ?_
          refine J_inc S_L_holds rfl rfl rfl ?_
          refine J_goto S_L_holds rfl ?_
          rw [eI]
          exact g J1 (sc_tr hJ s1)
  refine mj_enter (by decide +kernel) (Nat.le_of_ble_eq_true rfl) ?_
  refine J_C S_L_holds rfl ?_
  refine J_ist S_L_holds rfl rfl ?_
  refine J_C S_L_holds rfl ?_
  refine J_ist S_L_holds rfl rfl ?_
  refine J_C S_L_holds rfl ?_
  refine J_ist S_L_holds rfl rfl ?_
  refine J_C S_L_holds rfl ?_
  refine J_ist S_L_holds rfl rfl ?_
  refine J_C S_L_holds rfl ?_
  refine J_ist S_L_holds rfl rfl ?_
  refine J_C S_L_holds rfl ?_
  refine J_ist S_L_holds rfl rfl ?_
  exact key (tn (w 1)) 0 I (by omega) sc_rf
end Ho
