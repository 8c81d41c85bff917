/-! pays and founds -/
theorem cnt_ap (p : Nat → Bool) (a x : Nat) : ∀ y, cnt p a (x + y) = cnt p a x + cnt p (a + x) y
  | 0 => rfl
  | y + 1 => by
    rw [← Nat.add_assoc, cnt_end, cnt_end, cnt_ap p a x y, Nat.add_assoc, Nat.add_assoc]
theorem pl_rest {p : Nat → Bool} {n a s : Nat} (h : s ≤ cnt p a n) : cnt p (pl p a n s) (a + n - pl p a n s) = cnt p a n - s := by
  by_cases c : s < cnt p a n
  · obtain ⟨h1, h2, -⟩ := pl_cnt p n a s c
    have hg := pl_ge p n a s
    have e := cnt_ap p a (pl p a n s - a) (a + n - pl p a n s)
    rw [show pl p a n s - a + (a + n - pl p a n s) = n by omega, h1, show a + (pl p a n s - a) = pl p a n s by omega] at e
    omega
  · have e : s = cnt p a n := by omega
    have h1 := pl_end p n a s (by omega)
    rw [h1, Nat.sub_self, e, Nat.sub_self]
    rfl
theorem sq_pay {v : mv} {k c : Nat} : SQ v (payV v k c) := ⟨fun i h1 h2 => payV_o (by omega) (by omega) (by omega) (by omega) (by omega) (by omega), fun q f hf => payV_o (by omega) (by omega) (by omega) (by omega) (by omega) (by omega)⟩
theorem pyS_le (v : mv) (k c : Nat) : pyS v k c ≤ arr v k := by
  unfold pyS stl
  split <;> exact Nat.min_le_right _ _
theorem arr_pay {v : mv} (hI : IV v) {k c : Nat} (hk : k < 8) (he : vk v k 4 = 1) (h5 : vk v k 5 = 0) : arr (payV v k c) k = arr v k - pyS v k c ∧ tn (vk (payV v k c) k 6) = plc v k (pyS v k c) ∧ plc v k (pyS v k c) ≤ tn (v 0) := by
  have hp : tn (vk v k 6) ≤ tn (v 0) := (hI.wv hk he).2.2.2.2.2.2.2.2.2.2.1.2
  have lim := hI.1.2
  have e6 : vk (payV v k c) k 6 = nI (plc v k (pyS v k c)) := (payV_q (v := v) (k := k) (c := c)).2.2.2.1
  have hle : plc v k (pyS v k c) ≤ tn (v 0) := by
    have g := pl_le (cq v k) (tn (v 0) - tn (vk v k 6)) (tn (vk v k 6)) (pyS v k c)
    unfold plc
    omega
  have t6 : tn (vk (payV v k c) k 6) = plc v k (pyS v k c) := by rw [e6, tn_nI (by omega)]
  refine ⟨?_, t6, hle⟩
  have ar : arr v k = cnt (cq v k) (tn (vk v k 6)) (tn (v 0) - tn (vk v k 6)) := by
    unfold arr
    rw [if_neg (by rw [h5]; decide)]
    rfl
  have hS := pyS_le v k c
  rw [ar] at hS
  have e5 : vk (payV v k c) k 5 = vk v k 5 := payV_o (by omega) (by omega) (by omega) (by omega) (by omega) (by omega)
  have e0 : payV v k c 0 = v 0 := payV_o (by omega) (by omega) (by omega) (by omega) (by omega) (by omega)
  have g := pl_rest hS
  rw [show tn (vk v k 6) + (tn (v 0) - tn (vk v k 6)) = tn (v 0) by omega] at g
  rw [ar, ← g]
  unfold arr
  rw [if_neg (by rw [e5, h5]; decide), t6, e0, sq_cs sq_pay]
  show cnt _ (pl (cq v k) (tn (vk v k 6)) (tn (v 0) - tn (vk v k 6)) (pyS v k c)) (tn (v 0) - pl (cq v k) (tn (vk v k 6)) (tn (v 0) - tn (vk v k 6)) (pyS v k c)) = _
  refine cnt_ext (fun i h1 h2 => ?_)
  rw [sq_cl sq_pay (by omega)]
  rfl
theorem need_pq {v : mv} (hI : IV v) {k c : Nat} (hk : k < 8) (he : vk v k 4 = 1) (h5 : vk v k 5 = 0) (hc : c ≤ tn (v 2)) : need (payV v k c) k = nI (needN v k - (pyD v k c + pyA v k c)) ∧ pyD v k c + pyA v k c ≤ needN v k := by
  have hI' := payV_I hI hk he hc
  have he' : vk (payV v k c) k 4 = 1 := by
    rw [show vk (payV v k c) k 4 = vk v k 4 from payV_o (by omega) (by omega) (by omega) (by omega) (by omega) (by omega)]
    exact he
  obtain ⟨a1, -, -⟩ := arr_pay hI hk he h5 (c := c)
  have hD := pyD_le v k c
  have hS := pyS_le v k c
  have e7 : rg (vk v k 7) 500 := (hI.wv hk he).2.2.2.2.2.2.2.2.2.2.2.1
  have t7 : tn (vk (payV v k c) k 7) = tn (vk v k 7) - pyD v k c := by
    have s7 : vk v k 7 - nI (pyD v k c) = nI (tn (vk v k 7) - pyD v k c) := by
      have g := pk_sub hD
      rw [← e7.1] at g
      exact g
    rw [(payV_q (v := v) (k := k) (c := c)).2.2.2.2.1, s7, tn_nI (by have := e7.2; omega)]
  have ep : prN (payV v k c) k = prN v k := prN_to sq_pay (payV_o (by omega) (by omega) (by omega) (by omega) (by omega) (by omega))
  have hm : pyS v k c * prN v k ≤ arr v k * prN v k := Nat.mul_le_mul_right _ hS
  have e : needN (payV v k c) k = needN v k - (pyD v k c + pyA v k c) := by
    unfold needN pyA
    rw [t7, a1, ep, Nat.sub_mul]
    omega
  refine ⟨by rw [(need_N hI' hk he').1, e], ?_⟩
  unfold needN pyA
  omega
theorem pay_full {v : mv} (hI : IV v) {k c : Nat} (hk : k < 8) (he : vk v k 4 = 1) (h5 : vk v k 5 = 0) (h : needN v k ≤ c) : pyD v k c + pyA v k c = needN v k ∧ plc v k (pyS v k c) = tn (v 0) := by
  have hp : tn (vk v k 6) ≤ tn (v 0) := (hI.wv hk he).2.2.2.2.2.2.2.2.2.2.1.2
  have hr := (prc_N hI k).2.1
  have st : ∀ m, arr v k * prN v k ≤ m → stl v k m = arr v k := by
    intro m hm
    unfold stl
    exact Nat.min_eq_right ((Nat.le_div_iff_mul_le (by omega)).mpr hm)
  have hS : pyS v k c = arr v k := by
    unfold pyS needN at *
    split
    · exact st _ (by omega)
    · exact st _ (by omega)
  have hD : pyD v k c = tn (vk v k 7) := by
    have s1 := st c (by unfold needN at h; omega)
    unfold pyD needN at *
    rw [s1]
    split
    · omega
    · omega
  refine ⟨by unfold pyA needN; rw [hS, hD], ?_⟩
  have ar : arr v k = cnt (cq v k) (tn (vk v k 6)) (tn (v 0) - tn (vk v k 6)) := by
    unfold arr
    rw [if_neg (by rw [h5]; decide)]
    rfl
  unfold plc
  rw [hS, pl_end _ _ _ _ (by rw [ar]; exact Nat.le_refl _)]
  omega
section Py
variable {I : mj_I} {w : mv}
abbrev pyP (w : mv) : Option mj_V → mj_M → Prop := mj_px (fun r I1 => r = some (.inl 1) ∧ ∃ w', GS I1 w' ∧ AK w' ∧ KV w w')
theorem pay_ok {w' : mv} {k c T N : Nat} (h : LKS I w) (hk : k < 8) (he : vk w k 4 = 1) (h5 : vk w k 5 = 0) (ht : ¬ w 2 = 0) (gt : mj_R D_X9_pay [.inr (some 0), .inl (nI k), .inl (nI c)] (mj_w I) (mj_px (fun r I2 => r = some (.inl (nI T)) ∧ GS I2 w'))) (ha : AK w') (kv : KV w w') (he' : vk w' k 4 = 1)
    (hc9 : c ≤ 999) (hT : T ≤ c) (hT2 : T ≤ tn (w 2)) (hN : N ≤ 8500) (hTN : T ≤ N) (nd : need w k = nI N) (nd' : need w' k = nI (N - T)) (e2 : w' 2 = w 2 - nI T) (e8 : vk w' k 8 = vk w k 8 + nI T) (fin : N ≤ c → N ≤ tn (w 2) → N = T ∧ vwV w' k 5 = w' 0) : mj_R D_L_pays [.inr (some 0), .inl (nI k), .inl (nI c)] (mj_w I) (pyP w) := by
  have m0 := s_0
  obtain ⟨hR, hI, hZ⟩ := LKS_IV h
  have t2 := hI.2.2.1
  have v4 := G_v h hk he (j := 4) (by decide)
  have v8 := G_v h hk he (j := 8) (by decide)
  have v9 := G_v h hk he (j := 9) (by decide)
  rw [show vwV w k 4 = vk w k 5 from rfl, h5] at v4
  rw [show vwV w k 8 = need w k from rfl, nd] at v8
  rw [show vwV w k 9 = vk w k 8 from rfl] at v9
  have c6 := G_c6 h
  have c6' : ∀ J, GS J w' → mj_R D_X9_count [.inr (some 0), .inl (nI 6)] (mj_w J) (mj_ex (some (.inl (w 2 - nI T))) J) := by
    intro J hJ
    rw [← e2]
    exact G_c6 hJ.ls
  have v9' : ∀ J, GS J w' → mj_R D_X9_view [.inr (some 0), .inl (nI k), .inl (nI 9)] (mj_w J) (mj_ex (some (.inl (vk w k 8 + nI T))) J) := by
    intro J hJ
    rw [← e8]
    exact G_v hJ.ls hk he' (j := 9) (by decide)
  have v8' : ∀ J, GS J w' → mj_R D_X9_view [.inr (some 0), .inl (nI k), .inl (nI 8)] (mj_w J) (mj_ex (some (.inl (nI N - nI T))) J) := by
    intro J hJ
    rw [pk_sub hTN, ← nd']
    exact G_v hJ.ls hk he' (j := 8) (by decide)
  have p1 : ¬ nI T < 0 := nI_pos (by omega)
  have p2 : ¬ nI c < nI T := nI_nlt hT (by omega)
  have p3 : ¬ w 2 < nI T := by rw [t2.1]; exact nI_nlt hT2 (tn_lt _)
  have p4 : ¬ nI N < nI T := nI_nlt hTN (by omega)
  refine mj_enter (by decide +kernel) (Nat.le_of_ble_eq_true rfl) ?_
  by_cases x : N ≤ c
  · by_cases y : N ≤ tn (w 2)
    · obtain ⟨z1, z2⟩ := fin x y
      have z8 : nI N - nI T = 0 := by rw [z1, Int32.sub_self]
      have v5' : ∀ J, GS J w' → mj_R D_X9_view [.inr (some 0), .inl (nI k), .inl (nI 5)] (mj_w J) (mj_ex (some (.inl (w' 0))) J) := by
        intro J hJ
        rw [← z2]
        exact G_v hJ.ls hk he' (j := 5) (by decide)
      refine J_ald S_L_pays rfl rfl ?_
      refine J_ild S_L_pays rfl rfl ?_
      refine J_C S_L_pays rfl ?_
      refine J_CVx S_L_pays rfl rfl (by assumption) (by omega) (by simp) (v4) rfl ?_
      refine J_C S_L_pays rfl ?_
      refine J_cmp S_L_pays rfl (fun c7 => False.elim (absurd c7 (by decide))) (fun c7 => ?_)
      refine J_ald S_L_pays rfl rfl ?_
      refine J_C S_L_pays rfl ?_
      refine J_CVx S_L_pays rfl rfl (by assumption) (by omega) (by simp) (c6) rfl ?_
      refine J_if S_L_pays rfl (fun c16 => ?_) (fun c16 => False.elim (ht c16))
      refine J_ald S_L_pays rfl rfl ?_
      refine J_ild S_L_pays rfl rfl ?_
      refine J_C S_L_pays rfl ?_
      refine J_CVx S_L_pays rfl rfl (by assumption) (by omega) (by simp) (v8) rfl ?_
      refine J_ist S_L_pays rfl rfl ?_
      refine J_ald S_L_pays rfl rfl ?_
      refine J_C S_L_pays rfl ?_
      refine J_CVx S_L_pays rfl rfl (by assumption) (by omega) (by simp) (c6) rfl ?_
      refine J_ist S_L_pays rfl rfl ?_
      refine J_ald S_L_pays rfl rfl ?_
      refine J_ild S_L_pays rfl rfl ?_
      refine J_C S_L_pays rfl ?_
      refine J_CVx S_L_pays rfl rfl (by assumption) (by omega) (by simp) (v9) rfl ?_
      refine J_ist S_L_pays rfl rfl ?_
      refine J_ald S_L_pays rfl rfl ?_
      refine J_ild S_L_pays rfl rfl ?_
      refine J_ild S_L_pays rfl rfl ?_
      refine J_CV S_L_pays rfl rfl (by assumption) (by omega) (by simp) (gt) ?_
      rintro _ _ ⟨J1, rfl, rfl, g1⟩
      refine J_ist S_L_pays rfl rfl ?_
      refine J_ild S_L_pays rfl rfl ?_
      refine J_if S_L_pays rfl (fun c71 => False.elim (p1 c71)) (fun c71 => ?_)
      refine J_ild S_L_pays rfl rfl ?_
      refine J_ild S_L_pays rfl rfl ?_
      refine J_cmp S_L_pays rfl (fun c77 => False.elim (p2 c77)) (fun c77 => ?_)
      refine J_ild S_L_pays rfl rfl ?_
      refine J_ild S_L_pays rfl rfl ?_
      refine J_cmp S_L_pays rfl (fun c84 => False.elim (p3 c84)) (fun c84 => ?_)
      refine J_ild S_L_pays rfl rfl ?_
      refine J_ild S_L_pays rfl rfl ?_
      refine J_cmp S_L_pays rfl (fun c90 => False.elim (p4 c90)) (fun c90 => ?_)
      refine J_ald S_L_pays rfl rfl ?_
      refine J_C S_L_pays rfl ?_
      refine J_CVx S_L_pays rfl rfl (by assumption) (by omega) (by simp) (c6' _ g1) rfl ?_
      refine J_ild S_L_pays rfl rfl ?_
      refine J_ild S_L_pays rfl rfl ?_
      refine J_bin S_L_pays rfl ?_
      refine J_cmp S_L_pays rfl (fun c104 => False.elim (c104 rfl)) (fun c104 => ?_)
      refine J_ald S_L_pays rfl rfl ?_
      refine J_ild S_L_pays rfl rfl ?_
      refine J_C S_L_pays rfl ?_
      refine J_CVx S_L_pays rfl rfl (by assumption) (by omega) (by simp) (v9' _ g1) rfl ?_
      refine J_ild S_L_pays rfl rfl ?_
      refine J_ild S_L_pays rfl rfl ?_
      refine J_bin S_L_pays rfl ?_
      refine J_cmp S_L_pays rfl (fun c119 => False.elim (c119 rfl)) (fun c119 => ?_)
      refine J_ald S_L_pays rfl rfl ?_
      refine J_ild S_L_pays rfl rfl ?_
      refine J_C S_L_pays rfl ?_
      refine J_CVx S_L_pays rfl rfl (by assumption) (by omega) (by simp) (v8' _ g1) rfl ?_
      refine J_ild S_L_pays rfl rfl ?_
      refine J_ild S_L_pays rfl rfl ?_
      refine J_bin S_L_pays rfl ?_
      refine J_cmp S_L_pays rfl (fun c133 => False.elim (c133 rfl)) (fun c133 => ?_)
      refine J_C S_L_pays rfl ?_
      refine J_goto S_L_pays rfl ?_
      refine J_ist S_L_pays rfl rfl ?_
      refine J_ild S_L_pays rfl rfl ?_
      refine J_if S_L_pays rfl (fun c145 => False.elim (absurd c145 (by decide))) (fun c145 => ?_)
      refine J_ild S_L_pays rfl rfl ?_
      refine J_ild S_L_pays rfl rfl ?_
      refine J_cmp S_L_pays rfl (fun c150 => False.elim (nI_nlt x (by omega) c150)) (fun c150 => ?_)
      refine J_ild S_L_pays rfl rfl ?_
      refine J_ild S_L_pays rfl rfl ?_
      refine J_cmp S_L_pays rfl (fun c156 => False.elim (nI_nlt y (tn_lt _) (by rw [← t2.1]; exact c156))) (fun c156 => ?_)
      refine J_ald S_L_pays rfl rfl ?_
      refine J_ild S_L_pays rfl rfl ?_
      refine J_C S_L_pays rfl ?_
      refine J_CVx S_L_pays rfl rfl (by assumption) (by omega) (by simp) (v8' _ g1) rfl ?_
      refine J_if S_L_pays rfl (fun c166 => False.elim (c166 z8)) (fun c166 => ?_)
      refine J_ald S_L_pays rfl rfl ?_
      refine J_ild S_L_pays rfl rfl ?_
      refine J_C S_L_pays rfl ?_
      refine J_CVx S_L_pays rfl rfl (by assumption) (by omega) (by simp) (v5' _ g1) rfl ?_
      refine J_ald S_L_pays rfl rfl ?_
      refine J_C S_L_pays rfl ?_
      refine J_CVx S_L_pays rfl rfl (by assumption) (by omega) (by simp) (G_c0 g1.ls) rfl ?_
      refine J_cmp S_L_pays rfl (fun c180 => False.elim (c180 rfl)) (fun c180 => ?_)
      refine J_C S_L_pays rfl ?_
      refine J_goto S_L_pays rfl ?_
      refine J_retZ S_L_pays rfl (by decide) ?_
      exact ⟨_, rfl, rfl, _, g1, ha, kv⟩
    · refine J_ald S_L_pays rfl rfl ?_
      refine J_ild S_L_pays rfl rfl ?_
      refine J_C S_L_pays rfl ?_
      refine J_CVx S_L_pays rfl rfl (by assumption) (by omega) (by simp) (v4) rfl ?_
      refine J_C S_L_pays rfl ?_
      refine J_cmp S_L_pays rfl (fun c7 => False.elim (absurd c7 (by decide))) (fun c7 => ?_)
      refine J_ald S_L_pays rfl rfl ?_
      refine J_C S_L_pays rfl ?_
      refine J_CVx S_L_pays rfl rfl (by assumption) (by omega) (by simp) (c6) rfl ?_
      refine J_if S_L_pays rfl (fun c16 => ?_) (fun c16 => False.elim (ht c16))
      refine J_ald S_L_pays rfl rfl ?_
      refine J_ild S_L_pays rfl rfl ?_
      refine J_C S_L_pays rfl ?_
      refine J_CVx S_L_pays rfl rfl (by assumption) (by omega) (by simp) (v8) rfl ?_
      refine J_ist S_L_pays rfl rfl ?_
      refine J_ald S_L_pays rfl rfl ?_
      refine J_C S_L_pays rfl ?_
      refine J_CVx S_L_pays rfl rfl (by assumption) (by omega) (by simp) (c6) rfl ?_
      refine J_ist S_L_pays rfl rfl ?_
      refine J_ald S_L_pays rfl rfl ?_
      refine J_ild S_L_pays rfl rfl ?_
      refine J_C S_L_pays rfl ?_
      refine J_CVx S_L_pays rfl rfl (by assumption) (by omega) (by simp) (v9) rfl ?_
      refine J_ist S_L_pays rfl rfl ?_
      refine J_ald S_L_pays rfl rfl ?_
      refine J_ild S_L_pays rfl rfl ?_
      refine J_ild S_L_pays rfl rfl ?_
      refine J_CV S_L_pays rfl rfl (by assumption) (by omega) (by simp) (gt) ?_
      rintro _ _ ⟨J1, rfl, rfl, g1⟩
      refine J_ist S_L_pays rfl rfl ?_
      refine J_ild S_L_pays rfl rfl ?_
      refine J_if S_L_pays rfl (fun c71 => False.elim (p1 c71)) (fun c71 => ?_)
      refine J_ild S_L_pays rfl rfl ?_
      refine J_ild S_L_pays rfl rfl ?_
      refine J_cmp S_L_pays rfl (fun c77 => False.elim (p2 c77)) (fun c77 => ?_)
      refine J_ild S_L_pays rfl rfl ?_
      refine J_ild S_L_pays rfl rfl ?_
      refine J_cmp S_L_pays rfl (fun c84 => False.elim (p3 c84)) (fun c84 => ?_)
      refine J_ild S_L_pays rfl rfl ?_
      refine J_ild S_L_pays rfl rfl ?_
      refine J_cmp S_L_pays rfl (fun c90 => False.elim (p4 c90)) (fun c90 => ?_)
      refine J_ald S_L_pays rfl rfl ?_
      refine J_C S_L_pays rfl ?_
      refine J_CVx S_L_pays rfl rfl (by assumption) (by omega) (by simp) (c6' _ g1) rfl ?_
      refine J_ild S_L_pays rfl rfl ?_
      refine J_ild S_L_pays rfl rfl ?_
      refine J_bin S_L_pays rfl ?_
      refine J_cmp S_L_pays rfl (fun c104 => False.elim (c104 rfl)) (fun c104 => ?_)
      refine J_ald S_L_pays rfl rfl ?_
      refine J_ild S_L_pays rfl rfl ?_
      refine J_C S_L_pays rfl ?_
      refine J_CVx S_L_pays rfl rfl (by assumption) (by omega) (by simp) (v9' _ g1) rfl ?_
      refine J_ild S_L_pays rfl rfl ?_
      refine J_ild S_L_pays rfl rfl ?_
      refine J_bin S_L_pays rfl ?_
      refine J_cmp S_L_pays rfl (fun c119 => False.elim (c119 rfl)) (fun c119 => ?_)
      refine J_ald S_L_pays rfl rfl ?_
      refine J_ild S_L_pays rfl rfl ?_
      refine J_C S_L_pays rfl ?_
      refine J_CVx S_L_pays rfl rfl (by assumption) (by omega) (by simp) (v8' _ g1) rfl ?_
      refine J_ild S_L_pays rfl rfl ?_
      refine J_ild S_L_pays rfl rfl ?_
      refine J_bin S_L_pays rfl ?_
      refine J_cmp S_L_pays rfl (fun c133 => False.elim (c133 rfl)) (fun c133 => ?_)
      refine J_C S_L_pays rfl ?_
      refine J_goto S_L_pays rfl ?_
      refine J_ist S_L_pays rfl rfl ?_
      refine J_ild S_L_pays rfl rfl ?_
      refine J_if S_L_pays rfl (fun c145 => False.elim (absurd c145 (by decide))) (fun c145 => ?_)
      refine J_ild S_L_pays rfl rfl ?_
      refine J_ild S_L_pays rfl rfl ?_
      refine J_cmp S_L_pays rfl (fun c150 => False.elim (nI_nlt x (by omega) c150)) (fun c150 => ?_)
      refine J_ild S_L_pays rfl rfl ?_
      refine J_ild S_L_pays rfl rfl ?_
      refine J_cmp S_L_pays rfl (fun c156 => ?_) (fun c156 => False.elim (c156 (by rw [t2.1]; exact nI_lt (by omega) (by omega))))
      refine J_C S_L_pays rfl ?_
      refine J_goto S_L_pays rfl ?_
      refine J_retZ S_L_pays rfl (by decide) ?_
      exact ⟨_, rfl, rfl, _, g1, ha, kv⟩
  · refine J_ald S_L_pays rfl rfl ?_
    refine J_ild S_L_pays rfl rfl ?_
    refine J_C S_L_pays rfl ?_
    refine J_CVx S_L_pays rfl rfl (by assumption) (by omega) (by simp) (v4) rfl ?_
    refine J_C S_L_pays rfl ?_
    refine J_cmp S_L_pays rfl (fun c7 => False.elim (absurd c7 (by decide))) (fun c7 => ?_)
    refine J_ald S_L_pays rfl rfl ?_
    refine J_C S_L_pays rfl ?_
    refine J_CVx S_L_pays rfl rfl (by assumption) (by omega) (by simp) (c6) rfl ?_
    refine J_if S_L_pays rfl (fun c16 => ?_) (fun c16 => False.elim (ht c16))
    refine J_ald S_L_pays rfl rfl ?_
    refine J_ild S_L_pays rfl rfl ?_
    refine J_C S_L_pays rfl ?_
    refine J_CVx S_L_pays rfl rfl (by assumption) (by omega) (by simp) (v8) rfl ?_
    refine J_ist S_L_pays rfl rfl ?_
    refine J_ald S_L_pays rfl rfl ?_
    refine J_C S_L_pays rfl ?_
    refine J_CVx S_L_pays rfl rfl (by assumption) (by omega) (by simp) (c6) rfl ?_
    refine J_ist S_L_pays rfl rfl ?_
    refine J_ald S_L_pays rfl rfl ?_
    refine J_ild S_L_pays rfl rfl ?_
    refine J_C S_L_pays rfl ?_
    refine J_CVx S_L_pays rfl rfl (by assumption) (by omega) (by simp) (v9) rfl ?_
    refine J_ist S_L_pays rfl rfl ?_
    refine J_ald S_L_pays rfl rfl ?_
    refine J_ild S_L_pays rfl rfl ?_
    refine J_ild S_L_pays rfl rfl ?_
    refine J_CV S_L_pays rfl rfl (by assumption) (by omega) (by simp) (gt) ?_
    rintro _ _ ⟨J1, rfl, rfl, g1⟩
    refine J_ist S_L_pays rfl rfl ?_
    refine J_ild S_L_pays rfl rfl ?_
    refine J_if S_L_pays rfl (fun c71 => False.elim (p1 c71)) (fun c71 => ?_)
    refine J_ild S_L_pays rfl rfl ?_
    refine J_ild S_L_pays rfl rfl ?_
    refine J_cmp S_L_pays rfl (fun c77 => False.elim (p2 c77)) (fun c77 => ?_)
    refine J_ild S_L_pays rfl rfl ?_
    refine J_ild S_L_pays rfl rfl ?_
    refine J_cmp S_L_pays rfl (fun c84 => False.elim (p3 c84)) (fun c84 => ?_)
    refine J_ild S_L_pays rfl rfl ?_
    refine J_ild S_L_pays rfl rfl ?_
    refine J_cmp S_L_pays rfl (fun c90 => False.elim (p4 c90)) (fun c90 => ?_)
    refine J_ald S_L_pays rfl rfl ?_
    refine J_C S_L_pays rfl ?_
    refine J_CVx S_L_pays rfl rfl (by assumption) (by omega) (by simp) (c6' _ g1) rfl ?_
    refine J_ild S_L_pays rfl rfl ?_
    refine J_ild S_L_pays rfl rfl ?_
    refine J_bin S_L_pays rfl ?_
    refine J_cmp S_L_pays rfl (fun c104 => False.elim (c104 rfl)) (fun c104 => ?_)
    refine J_ald S_L_pays rfl rfl ?_
    refine J_ild S_L_pays rfl rfl ?_
    refine J_C S_L_pays rfl ?_
    refine J_CVx S_L_pays rfl rfl (by assumption) (by omega) (by simp) (v9' _ g1) rfl ?_
    refine J_ild S_L_pays rfl rfl ?_
    refine J_ild S_L_pays rfl rfl ?_
    refine J_bin S_L_pays rfl ?_
    refine J_cmp S_L_pays rfl (fun c119 => False.elim (c119 rfl)) (fun c119 => ?_)
    refine J_ald S_L_pays rfl rfl ?_
    refine J_ild S_L_pays rfl rfl ?_
    refine J_C S_L_pays rfl ?_
    refine J_CVx S_L_pays rfl rfl (by assumption) (by omega) (by simp) (v8' _ g1) rfl ?_
    refine J_ild S_L_pays rfl rfl ?_
    refine J_ild S_L_pays rfl rfl ?_
    refine J_bin S_L_pays rfl ?_
    refine J_cmp S_L_pays rfl (fun c133 => False.elim (c133 rfl)) (fun c133 => ?_)
    refine J_C S_L_pays rfl ?_
    refine J_goto S_L_pays rfl ?_
    refine J_ist S_L_pays rfl rfl ?_
    refine J_ild S_L_pays rfl rfl ?_
    refine J_if S_L_pays rfl (fun c145 => False.elim (absurd c145 (by decide))) (fun c145 => ?_)
    refine J_ild S_L_pays rfl rfl ?_
    refine J_ild S_L_pays rfl rfl ?_
    refine J_cmp S_L_pays rfl (fun c150 => ?_) (fun c150 => False.elim (c150 (nI_lt (by omega) (by omega))))
    refine J_C S_L_pays rfl ?_
    refine J_goto S_L_pays rfl ?_
    refine J_retZ S_L_pays rfl (by decide) ?_
    exact ⟨_, rfl, rfl, _, g1, ha, kv⟩
theorem T_pays (h : GS I w) (ha : AK w) {k c : Nat} (hk : k < 8) (he : vk w k 4 = 1) (hc1 : 1 ≤ c) (hc9 : c ≤ 999) : mj_R D_L_pays [.inr (some 0), .inl (nI k), .inl (nI c)] (mj_w I) (pyP w) := by
  have m0 := s_0
  have hl := h.ls
  obtain ⟨hR, hI, hZ⟩ := LKS_IV hl
  have cc : 1 ≤ nI c ∧ nI c ≤ 999 := ⟨nI_le (a := 1) hc1 (by omega), nI_le (b := 999) hc9 (by decide)⟩
  have v4 := G_v hl hk he (j := 4) (by decide)
  rw [show vwV w k 4 = vk w k 5 from rfl] at v4
  rcases rg_01 (hI.wv hk he).2.2.2.2.2.2.2.2.2.1 with h5 | h5
  · by_cases ht : w 2 = 0
    · have gt := X9_pay_ill (I := I) hR hI hk he cc (Or.inr ht)
      rw [h5] at v4
      refine mj_enter (by decide +kernel) (Nat.le_of_ble_eq_true rfl) ?_
      refine J_ald S_L_pays rfl rfl ?_
      refine J_ild S_L_pays rfl rfl ?_
      refine J_C S_L_pays rfl ?_
      refine J_CVx S_L_pays rfl rfl (by assumption) (by omega) (by simp) (v4) rfl ?_
      refine J_C S_L_pays rfl ?_
      refine J_cmp S_L_pays rfl (fun c7 => False.elim (absurd c7 (by decide))) (fun c7 => ?_)
      refine J_ald S_L_pays rfl rfl ?_
      refine J_C S_L_pays rfl ?_
      refine J_CVx S_L_pays rfl rfl (by assumption) (by omega) (by simp) (G_c6 hl) rfl ?_
      refine J_if S_L_pays rfl (fun c16 => False.elim (c16 ht)) (fun c16 => ?_)
      refine J_ald S_L_pays rfl rfl ?_
      refine J_ild S_L_pays rfl rfl ?_
      refine J_ild S_L_pays rfl rfl ?_
      refine J_CVx S_L_pays rfl rfl (by assumption) (by omega) (by simp) (gt) rfl ?_
      refine J_C S_L_pays rfl ?_
      refine J_cmp S_L_pays rfl (fun c27 => False.elim (c27 rfl)) (fun c27 => ?_)
      refine J_C S_L_pays rfl ?_
      refine J_goto S_L_pays rfl ?_
      refine J_retZ S_L_pays rfl (by decide) ?_
      exact ⟨_, rfl, rfl, _, h, ha, KV_rf⟩
    · have gt := G_pay h ha hk he h5 hc1 hc9 ht
      have hm : min c (tn (w 2)) ≤ tn (w 2) := Nat.min_le_right _ _
      have hm2 : min c (tn (w 2)) ≤ c := Nat.min_le_left _ _
      obtain ⟨n1, n2⟩ := need_pq hI hk he h5 hm
      obtain ⟨n3, n4⟩ := need_N hI hk he
      have hpy := py_le w k (min c (tn (w 2)))
      obtain ⟨-, a2, a3⟩ := arr_pay hI hk he h5 (c := min c (tn (w 2)))
      have q := payV_q (v := w) (k := k) (c := min c (tn (w 2)))
      have he' : vk (payV w k (min c (tn (w 2)))) k 4 = 1 := by
        rw [show vk (payV w k (min c (tn (w 2)))) k 4 = vk w k 4 from payV_o (by omega) (by omega) (by omega) (by omega) (by omega) (by omega)]
        exact he
      have h5' : vk (payV w k (min c (tn (w 2)))) k 5 = 0 := by
        rw [show vk (payV w k (min c (tn (w 2)))) k 5 = vk w k 5 from payV_o (by omega) (by omega) (by omega) (by omega) (by omega) (by omega)]
        exact h5
      have h0' : payV w k (min c (tn (w 2))) 0 = w 0 := payV_o (by omega) (by omega) (by omega) (by omega) (by omega) (by omega)
      refine pay_ok hl hk he h5 ht gt (AK_pay ha) KV_pay he' hc9 (by omega) (by omega) n4 n2 n3 n1 q.1 q.2.2.2.2.2 (fun x y => ?_)
      obtain ⟨f1, f2⟩ := pay_full hI hk he h5 (c := min c (tn (w 2))) (Nat.le_min.mpr ⟨x, y⟩)
      refine ⟨f1.symm, ?_⟩
      show (if vk (payV w k (min c (tn (w 2)))) k 5 = 1 then -100000009 else vk (payV w k (min c (tn (w 2)))) k 6) = _
      rw [if_neg (by rw [h5']; decide), q.2.2.2.1, f2, h0', ← hI.1.1]
  · have gt := X9_pay_ill (I := I) hR hI hk he cc (Or.inl h5)
    rw [h5] at v4
    refine mj_enter (by decide +kernel) (Nat.le_of_ble_eq_true rfl) ?_
    refine J_ald S_L_pays rfl rfl ?_
    refine J_ild S_L_pays rfl rfl ?_
    refine J_C S_L_pays rfl ?_
    refine J_CVx S_L_pays rfl rfl (by assumption) (by omega) (by simp) (v4) rfl ?_
    refine J_C S_L_pays rfl ?_
    refine J_cmp S_L_pays rfl (fun c7 => ?_) (fun c7 => False.elim (c7 rfl))
    refine J_ald S_L_pays rfl rfl ?_
    refine J_ild S_L_pays rfl rfl ?_
    refine J_ild S_L_pays rfl rfl ?_
    refine J_CVx S_L_pays rfl rfl (by assumption) (by omega) (by simp) (gt) rfl ?_
    refine J_C S_L_pays rfl ?_
    refine J_cmp S_L_pays rfl (fun c27 => False.elim (c27 rfl)) (fun c27 => ?_)
    refine J_C S_L_pays rfl ?_
    refine J_goto S_L_pays rfl ?_
    refine J_retZ S_L_pays rfl (by decide) ?_
    exact ⟨_, rfl, rfl, _, h, ha, KV_rf⟩
theorem ks_pos {v : mv} (hI : IV v) : ∀ m k, k < m → k < 8 → vk v k 4 = 1 → 1 ≤ ks v k
  | 0, k, h, _, _ => absurd h (Nat.not_lt_zero k)
  | m + 1, k, h, hk, he => by
    have hw := hI.wv hk he
    obtain ⟨-, -, -, -, w2, w3, w4, w5, w9, -⟩ := hw
    rw [ks_eq]
    by_cases c : vk v k 0 = 4
    · obtain ⟨a1, a2⟩ := w4 c
      obtain ⟨b1, b2⟩ := w9 he c
      rw [if_pos c, tb_lt a1, tb_lt a2]
      have h1 : 1 ≤ ks v (tn (vk v k 2)) := ks_pos hI m _ (by omega) (by omega) b1
      change 1 ≤ ks v (tn (vk v k 2)) + _
      omega
    · rw [if_neg c]
      have := w5 c
      omega
theorem fc_pos {v : mv} (hI : IV v) {k : Nat} (hk : k < 8) (he : vk v k 4 = 1) : 0 < fcost v k := by
  have h10 : rg (v 10) 20 := (hI.2.2.2.1 1 (by decide)).1
  have h1 : 1 ≤ tn (v 10) := (hI.2.2.2.1 1 (by decide)).2
  have h20 : tn (v 10) ≤ 20 := h10.2
  have hk1 := ks_le hI 8 k hk hk he
  have hk0 := ks_pos hI 8 k hk hk he
  have hp : 2 ^ k ≤ 2 ^ 7 := Nat.pow_le_pow_right (by decide) (by omega)
  have e7 : (2 : Nat) ^ 7 = 128 := rfl
  have e : fcost v k = nI (3 * tn (v 10) * ks v k) := by
    unfold fcost
    rw [h10.1, tn_nI (by omega), show (3 : Int32) = nI 3 from rfl, pk_mul, pk_mul]
  have hb : 3 * tn (v 10) * ks v k ≤ 60 * 1536 := Nat.mul_le_mul (by omega) (by omega)
  have hb0 : 1 * 1 ≤ 3 * tn (v 10) * ks v k := Nat.mul_le_mul (by omega) hk0
  rw [e]
  exact nI_lt (a := 0) (by omega) (by omega)
theorem found_ok {w' : mv} {k : Nat} {F : Int32} (h : LKS I w) (hk : k < 8) (he : vk w k 4 = 1) (h5 : vk w k 5 = 1) (gt : mj_R D_X9_found [.inr (some 0), .inl (nI k)] (mj_w I) (mj_px (fun r I2 => r = some (.inl F) ∧ GS I2 w'))) (ha : AK w') (kv : KV w w') (he' : vk w' k 4 = 1) (hF : 0 < F) (e2 : w' 2 = w 2 - F) (e5 : vk w' k 5 = 0) (e6 : vk w' k 6 = w' 0) (e7 : vk w' k 7 = 0) : mj_R D_L_founds [.inr (some 0), .inl (nI k)] (mj_w I) (pyP w) := by
  have m0 := s_0
  have v4 := G_v h hk he (j := 4) (by decide)
  rw [show vwV w k 4 = vk w k 5 from rfl, h5] at v4
  have c6' : ∀ J, GS J w' → mj_R D_X9_count [.inr (some 0), .inl (nI 6)] (mj_w J) (mj_ex (some (.inl (w 2 - F))) J) := by
    intro J hJ
    rw [← e2]
    exact G_c6 hJ.ls
  have v4' : ∀ J, GS J w' → mj_R D_X9_view [.inr (some 0), .inl (nI k), .inl (nI 4)] (mj_w J) (mj_ex (some (.inl 0)) J) := by
    intro J hJ
    rw [← e5]
    exact G_v hJ.ls hk he' (j := 4) (by decide)
  have v5' : ∀ J, GS J w' → mj_R D_X9_view [.inr (some 0), .inl (nI k), .inl (nI 5)] (mj_w J) (mj_ex (some (.inl (w' 0))) J) := by
    intro J hJ
    have g := G_v hJ.ls hk he' (j := 5) (by decide)
    rw [show vwV w' k 5 = if vk w' k 5 = 1 then -100000009 else vk w' k 6 from rfl, if_neg (by rw [e5]; decide), e6] at g
    exact g
  have v7' : ∀ J, GS J w' → mj_R D_X9_view [.inr (some 0), .inl (nI k), .inl (nI 7)] (mj_w J) (mj_ex (some (.inl 0)) J) := by
    intro J hJ
    rw [← e7]
    exact G_v hJ.ls hk he' (j := 7) (by decide)
  have hF0 : 0 ≤ F := by
    rw [fa_lt] at hF
    rw [fa_le]
    omega
  refine mj_enter (by decide +kernel) (Nat.le_of_ble_eq_true rfl) ?_
  refine J_ald S_L_founds rfl rfl ?_
  refine J_ild S_L_founds rfl rfl ?_
  refine J_C S_L_founds rfl ?_
  refine J_CVx S_L_founds rfl rfl (by assumption) (by omega) (by simp) (v4) rfl ?_
  refine J_C S_L_founds rfl ?_
  refine J_cmp S_L_founds rfl (fun c7 => False.elim (c7 rfl)) (fun c7 => ?_)
  refine J_C S_L_founds rfl ?_
  refine J_goto S_L_founds rfl ?_
  refine J_ist S_L_founds rfl rfl ?_
  refine J_ald S_L_founds rfl rfl ?_
  refine J_C S_L_founds rfl ?_
  refine J_CVx S_L_founds rfl rfl (by assumption) (by omega) (by simp) (G_c6 h) rfl ?_
  refine J_ist S_L_founds rfl rfl ?_
  refine J_ald S_L_founds rfl rfl ?_
  refine J_ild S_L_founds rfl rfl ?_
  refine J_CV S_L_founds rfl rfl (by assumption) (by omega) (by simp) (gt) ?_
  rintro _ _ ⟨J1, rfl, rfl, g1⟩
  refine J_ist S_L_founds rfl rfl ?_
  refine J_ild S_L_founds rfl rfl ?_
  refine J_if S_L_founds rfl (fun c32 => ?_) (fun c32 => False.elim (c32 hF0))
  refine J_ild S_L_founds rfl rfl ?_
  refine J_if S_L_founds rfl (fun c73 => False.elim (absurd c73 (by decide))) (fun c73 => ?_)
  refine J_ild S_L_founds rfl rfl ?_
  refine J_if S_L_founds rfl (fun c78 => False.elim (Int32.not_le.mpr hF c78)) (fun c78 => ?_)
  refine J_ald S_L_founds rfl rfl ?_
  refine J_C S_L_founds rfl ?_
  refine J_CVx S_L_founds rfl rfl (by assumption) (by omega) (by simp) (c6' _ g1) rfl ?_
  refine J_ild S_L_founds rfl rfl ?_
  refine J_ild S_L_founds rfl rfl ?_
  refine J_bin S_L_founds rfl ?_
  refine J_cmp S_L_founds rfl (fun c91 => False.elim (c91 rfl)) (fun c91 => ?_)
  refine J_ald S_L_founds rfl rfl ?_
  refine J_ild S_L_founds rfl rfl ?_
  refine J_C S_L_founds rfl ?_
  refine J_CVx S_L_founds rfl rfl (by assumption) (by omega) (by simp) (v4' _ g1) rfl ?_
  refine J_if S_L_founds rfl (fun c100 => False.elim (c100 rfl)) (fun c100 => ?_)
  refine J_ald S_L_founds rfl rfl ?_
  refine J_ild S_L_founds rfl rfl ?_
  refine J_C S_L_founds rfl ?_
  refine J_CVx S_L_founds rfl rfl (by assumption) (by omega) (by simp) (v5' _ g1) rfl ?_
  refine J_ald S_L_founds rfl rfl ?_
  refine J_C S_L_founds rfl ?_
  refine J_CVx S_L_founds rfl rfl (by assumption) (by omega) (by simp) (G_c0 g1.ls) rfl ?_
  refine J_cmp S_L_founds rfl (fun c114 => False.elim (c114 rfl)) (fun c114 => ?_)
  refine J_ald S_L_founds rfl rfl ?_
  refine J_ild S_L_founds rfl rfl ?_
  refine J_C S_L_founds rfl ?_
  refine J_CVx S_L_founds rfl rfl (by assumption) (by omega) (by simp) (v7' _ g1) rfl ?_
  refine J_if S_L_founds rfl (fun c124 => False.elim (c124 rfl)) (fun c124 => ?_)
  refine J_C S_L_founds rfl ?_
  refine J_goto S_L_founds rfl ?_
  refine J_retZ S_L_founds rfl (by decide) ?_
  exact ⟨_, rfl, rfl, _, g1, ha, kv⟩
theorem T_founds (h : GS I w) (ha : AK w) {k : Nat} (hk : k < 8) (he : vk w k 4 = 1) : mj_R D_L_founds [.inr (some 0), .inl (nI k)] (mj_w I) (pyP w) := by
  have m0 := s_0
  have hl := h.ls
  obtain ⟨hR, hI, hZ⟩ := LKS_IV hl
  have v4 := G_v hl hk he (j := 4) (by decide)
  rw [show vwV w k 4 = vk w k 5 from rfl] at v4
  rcases rg_01 (hI.wv hk he).2.2.2.2.2.2.2.2.2.1 with h5 | h5
  · have gt := X9_found_ill (I := I) hR hI hk he (Or.inl h5)
    rw [h5] at v4
    refine mj_enter (by decide +kernel) (Nat.le_of_ble_eq_true rfl) ?_
    refine J_ald S_L_founds rfl rfl ?_
    refine J_ild S_L_founds rfl rfl ?_
    refine J_C S_L_founds rfl ?_
    refine J_CVx S_L_founds rfl rfl (by assumption) (by omega) (by simp) (v4) rfl ?_
    refine J_C S_L_founds rfl ?_
    refine J_cmp S_L_founds rfl (fun c7 => ?_) (fun c7 => False.elim (absurd c7 (by decide)))
    refine J_C S_L_founds rfl ?_
    refine J_ist S_L_founds rfl rfl ?_
    refine J_ald S_L_founds rfl rfl ?_
    refine J_C S_L_founds rfl ?_
    refine J_CVx S_L_founds rfl rfl (by assumption) (by omega) (by simp) (G_c6 hl) rfl ?_
    refine J_ist S_L_founds rfl rfl ?_
    refine J_ald S_L_founds rfl rfl ?_
    refine J_ild S_L_founds rfl rfl ?_
    refine J_CVx S_L_founds rfl rfl (by assumption) (by omega) (by simp) (gt) rfl ?_
    refine J_ist S_L_founds rfl rfl ?_
    refine J_ild S_L_founds rfl rfl ?_
    refine J_if S_L_founds rfl (fun c32 => False.elim (absurd c32 (by decide))) (fun c32 => ?_)
    refine J_ild S_L_founds rfl rfl ?_
    refine J_C S_L_founds rfl ?_
    refine J_cmp S_L_founds rfl (fun c39 => False.elim (c39 rfl)) (fun c39 => ?_)
    refine J_ald S_L_founds rfl rfl ?_
    refine J_C S_L_founds rfl ?_
    refine J_CVx S_L_founds rfl rfl (by assumption) (by omega) (by simp) (G_c6 hl) rfl ?_
    refine J_ild S_L_founds rfl rfl ?_
    refine J_cmp S_L_founds rfl (fun c49 => False.elim (c49 rfl)) (fun c49 => ?_)
    refine J_ild S_L_founds rfl rfl ?_
    refine J_if S_L_founds rfl (fun c53 => ?_) (fun c53 => False.elim (c53 rfl))
    refine J_C S_L_founds rfl ?_
    refine J_goto S_L_founds rfl ?_
    refine J_retZ S_L_founds rfl (by decide) ?_
    exact ⟨_, rfl, rfl, _, h, ha, KV_rf⟩
  · by_cases hf : fcost w k ≤ w 2
    · have q := found_e (v := w) (k := k) (c := fcost w k)
      refine found_ok hl hk he h5 (G_found h ha hk he h5 hf) (AK_found ha) KV_found ?_ (fc_pos hI hk he) q.1 q.2.2.1 ?_ ?_
      · rw [show vk (foundV w k (fcost w k)) k 4 = vk w k 4 from found_o (by omega) (by omega) (by omega) (by omega) (by omega)]
        exact he
      · rw [q.2.2.2.1]
        exact (found_o (by omega) (by omega) (by omega) (by omega) (by omega)).symm
      · rw [show vk (foundV w k (fcost w k)) k 7 = vk w k 7 from found_o (by omega) (by omega) (by omega) (by omega) (by omega)]
        exact hZ k hk he h5
    · have gt := X9_found_ill (I := I) hR hI hk he (Or.inr hf)
      rw [h5] at v4
      refine mj_enter (by decide +kernel) (Nat.le_of_ble_eq_true rfl) ?_
      refine J_ald S_L_founds rfl rfl ?_
      refine J_ild S_L_founds rfl rfl ?_
      refine J_C S_L_founds rfl ?_
      refine J_CVx S_L_founds rfl rfl (by assumption) (by omega) (by simp) (v4) rfl ?_
      refine J_C S_L_founds rfl ?_
      refine J_cmp S_L_founds rfl (fun c7 => False.elim (c7 rfl)) (fun c7 => ?_)
      refine J_C S_L_founds rfl ?_
      refine J_goto S_L_founds rfl ?_
      refine J_ist S_L_founds rfl rfl ?_
      refine J_ald S_L_founds rfl rfl ?_
      refine J_C S_L_founds rfl ?_
      refine J_CVx S_L_founds rfl rfl (by assumption) (by omega) (by simp) (G_c6 hl) rfl ?_
      refine J_ist S_L_founds rfl rfl ?_
      refine J_ald S_L_founds rfl rfl ?_
      refine J_ild S_L_founds rfl rfl ?_
      refine J_CVx S_L_founds rfl rfl (by assumption) (by omega) (by simp) (gt) rfl ?_
      refine J_ist S_L_founds rfl rfl ?_
      refine J_ild S_L_founds rfl rfl ?_
      refine J_if S_L_founds rfl (fun c32 => False.elim (absurd c32 (by decide))) (fun c32 => ?_)
      refine J_ild S_L_founds rfl rfl ?_
      refine J_C S_L_founds rfl ?_
      refine J_cmp S_L_founds rfl (fun c39 => False.elim (c39 rfl)) (fun c39 => ?_)
      refine J_ald S_L_founds rfl rfl ?_
      refine J_C S_L_founds rfl ?_
      refine J_CVx S_L_founds rfl rfl (by assumption) (by omega) (by simp) (G_c6 hl) rfl ?_
      refine J_ild S_L_founds rfl rfl ?_
      refine J_cmp S_L_founds rfl (fun c49 => False.elim (c49 rfl)) (fun c49 => ?_)
      refine J_ild S_L_founds rfl rfl ?_
      refine J_if S_L_founds rfl (fun c53 => False.elim (absurd c53 (by decide))) (fun c53 => ?_)
      refine J_ald S_L_founds rfl rfl ?_
      refine J_ild S_L_founds rfl rfl ?_
      refine J_C S_L_founds rfl ?_
      refine J_CVx S_L_founds rfl rfl (by assumption) (by omega) (by simp) (v4) rfl ?_
      refine J_C S_L_founds rfl ?_
      refine J_cmp S_L_founds rfl (fun c63 => False.elim (c63 rfl)) (fun c63 => ?_)
      refine J_C S_L_founds rfl ?_
      refine J_goto S_L_founds rfl ?_
      refine J_retZ S_L_founds rfl (by decide) ?_
      exact ⟨_, rfl, rfl, _, h, ha, KV_rf⟩
end Py
