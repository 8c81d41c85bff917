/-- how many views there are below n -/
def nV (v : mv) : Nat → Nat
  | 0 => 0
  | n + 1 => nV v n + (if ex v n = true then 1 else 0)
theorem nV_le (v : mv) : ∀ n, nV v n ≤ n
  | 0 => Nat.le_refl 0
  | n + 1 => by
    have := nV_le v n
    rw [nV]
    split <;> omega
section M6
variable {I : mj_I}
theorem C_X10_views (hI : IV (I 314)) : mj_R D_X10_views [.inr (some 313)] (mj_w I) (mj_ex (some (.inl (nI (nV (I 314) (tn (I 314 1)))))) I) := by
  have m0 := s_313
  have m1 := s_314
  obtain ⟨df, hdf, hdl⟩ : ∃ d, I 314 1 = nI d ∧ d ≤ 8 := ⟨_, hI.2.1.1, hI.2.1.2⟩
  have hdt : tn (I 314 1) = df := by rw [hdf, tn_nI (by omega)]
  rw [hdt]
  refine mj_enter (by decide +kernel) (Nat.le_of_ble_eq_true rfl) ?_
  have key : ∀ (s k : Nat), k + s = df → mj_J D_X10_views (mj_ex (some (.inl (nI (nV (I 314) df)))) I) 4 [some (.inr (some 313)), some (.inl (nI (nV (I 314) k))), some (.inl (nI k))] [] (mj_w I) (0, 0) := by
    intro s
    induction s with
    | zero =>
      intro k hk
      obtain rfl : k = df := by omega
      refine J_ild S_X10_views rfl rfl ?_
      refine J_ald S_X10_views rfl rfl ?_
      refine J_getR S_X10_views rfl (o' := 314) (by assumption) (by omega) rfl ?_
      refine J_C S_X10_views rfl ?_
      refine J_iald S_X10_views rfl (by assumption) (by omega) (j := 1) rfl (by omega) (by decide) ?_
      rw [hdf]
      refine J_cmp S_X10_views rfl (fun c11 => ?_) (fun c11 => False.elim (c11 (Int32.le_refl _)))
      refine J_ild S_X10_views rfl rfl ?_
      refine J_retI S_X10_views rfl ?_
      exact ⟨rfl, rfl⟩
    | succ s ih =>
      intro k hk
      have hk8 : k < 8 := by omega
      have hv := C_X10_v (I := I) (k := k) (f := 4)
      have g := ih (k + 1) (by omega)
      have e : I 314 (615 + 9 * k + 4) = nI (if ex (I 314) k = true then 1 else 0) := by
        show vk (I 314) k 4 = _
        rcases hI.b01 hk8 with he | he
        · rw [ex_f he, he]; rfl
        · rw [ex_t he, he]; rfl
      rw [nV] at g
      refine J_ild S_X10_views rfl rfl ?_
      refine J_ald S_X10_views rfl rfl ?_
      refine J_getR S_X10_views rfl (o' := 314) (by assumption) (by omega) rfl ?_
      refine J_C S_X10_views rfl ?_
      refine J_iald S_X10_views rfl (by assumption) (by omega) (j := 1) rfl (by omega) (by decide) ?_
      rw [hdf]
      refine J_cmp S_X10_views rfl (fun c11 => False.elim (nI_ge (show k < df by omega) (by omega) c11)) (fun c11 => ?_)
      refine J_ild S_X10_views rfl rfl ?_
      refine J_ald S_X10_views rfl rfl ?_
      refine J_getR S_X10_views rfl (o' := 314) (by assumption) (by omega) rfl ?_
      refine J_ild S_X10_views rfl rfl ?_
      refine J_C S_X10_views rfl ?_
      refine J_CSx S_X10_views rfl rfl (by simp) (hv) rfl ?_
      refine J_iald S_X10_views rfl (by assumption) (by omega) (j := 615 + 9 * k + 4) rfl (by omega) (by decide) ?_
      rw [e]
      refine J_bin S_X10_views rfl ?_
      refine J_ist S_X10_views rfl rfl ?_
      refine J_inc S_X10_views rfl rfl rfl ?_
      refine J_goto S_X10_views rfl ?_
      rw [nI_add, ← nI_succ]
      exact g
  refine J_C S_X10_views rfl ?_
  refine J_ist S_X10_views rfl rfl ?_
  refine J_C S_X10_views rfl ?_
  refine J_ist S_X10_views rfl rfl ?_
  exact key df 0 (by omega)
theorem C_X10_isMadeOf (hI : IV (I 314)) {k : Nat} {x : Int32} (hk : k < 8) : mj_R D_X10_isMadeOf [.inr (some 313), .inl (nI k), .inl x] (mj_w I) (mj_ex (some (.inl (bi (made (I 314) x k)))) I) := by
  have m0 := s_313
  have m1 := s_314
  have hiv := C_X10_isView (I := I) hI (x := nI k)
  rw [isV_nI hk] at hiv
  have hv := fun f => C_X10_v (I := I) (k := k) (f := f)
  refine mj_enter (by decide +kernel) (Nat.le_of_ble_eq_true rfl) ?_
  rcases hI.b01 hk with he | he
  · rw [ex_f he] at hiv
    have e : made (I 314) x k = false := by unfold made; rw [ex_f he]; rfl
    rw [e]
    refine J_ald S_X10_isMadeOf rfl rfl ?_
    refine J_ild S_X10_isMadeOf rfl rfl ?_
    refine J_CVx S_X10_isMadeOf rfl rfl (by assumption) (by omega) (by simp) (hiv) rfl ?_
    refine J_if S_X10_isMadeOf rfl (fun c5 => ?_) (fun c5 => False.elim (c5 rfl))
    refine J_C S_X10_isMadeOf rfl ?_
    refine J_retZ S_X10_isMadeOf rfl (by decide) ?_
    exact ⟨rfl, rfl⟩
  · rw [ex_t he] at hiv
    by_cases h4 : vk (I 314) k 0 = 4
    · by_cases ha : vk (I 314) k 2 = x
      · have e : made (I 314) x k = true := by unfold made; rw [ex_t he, decide_eq_true h4, decide_eq_true ha]; rfl
        rw [e]
        refine J_ald S_X10_isMadeOf rfl rfl ?_
        refine J_ild S_X10_isMadeOf rfl rfl ?_
        refine J_CVx S_X10_isMadeOf rfl rfl (by assumption) (by omega) (by simp) (hiv) rfl ?_
        refine J_if S_X10_isMadeOf rfl (fun c5 => False.elim (absurd c5 (by decide))) (fun c5 => ?_)
        refine J_ald S_X10_isMadeOf rfl rfl ?_
        refine J_getR S_X10_isMadeOf rfl (o' := 314) (by assumption) (by omega) rfl ?_
        refine J_ild S_X10_isMadeOf rfl rfl ?_
        refine J_C S_X10_isMadeOf rfl ?_
        refine J_CSx S_X10_isMadeOf rfl rfl (by simp) (hv 0) rfl ?_
        refine J_iald S_X10_isMadeOf rfl (by assumption) (by omega) (j := 615 + 9 * k + 0) rfl (by omega) (by decide) ?_
        refine J_C S_X10_isMadeOf rfl ?_
        refine J_cmp S_X10_isMadeOf rfl (fun c19 => False.elim (c19 h4)) (fun c19 => ?_)
        refine J_ald S_X10_isMadeOf rfl rfl ?_
        refine J_getR S_X10_isMadeOf rfl (o' := 314) (by assumption) (by omega) rfl ?_
        refine J_ild S_X10_isMadeOf rfl rfl ?_
        refine J_C S_X10_isMadeOf rfl ?_
        refine J_CSx S_X10_isMadeOf rfl rfl (by simp) (hv 2) rfl ?_
        refine J_iald S_X10_isMadeOf rfl (by assumption) (by omega) (j := 615 + 9 * k + 2) rfl (by omega) (by decide) ?_
        refine J_ild S_X10_isMadeOf rfl rfl ?_
        refine J_cmp S_X10_isMadeOf rfl (fun c33 => ?_) (fun c33 => False.elim (c33 ha))
        refine J_C S_X10_isMadeOf rfl ?_
        refine J_goto S_X10_isMadeOf rfl ?_
        refine J_retZ S_X10_isMadeOf rfl (by decide) ?_
        exact ⟨rfl, rfl⟩
      · by_cases hb : vk (I 314) k 3 = x
        · have e : made (I 314) x k = true := by unfold made; rw [ex_t he, decide_eq_true h4, decide_eq_true hb]; simp
          rw [e]
          refine J_ald S_X10_isMadeOf rfl rfl ?_
          refine J_ild S_X10_isMadeOf rfl rfl ?_
          refine J_CVx S_X10_isMadeOf rfl rfl (by assumption) (by omega) (by simp) (hiv) rfl ?_
          refine J_if S_X10_isMadeOf rfl (fun c5 => False.elim (absurd c5 (by decide))) (fun c5 => ?_)
          refine J_ald S_X10_isMadeOf rfl rfl ?_
          refine J_getR S_X10_isMadeOf rfl (o' := 314) (by assumption) (by omega) rfl ?_
          refine J_ild S_X10_isMadeOf rfl rfl ?_
          refine J_C S_X10_isMadeOf rfl ?_
          refine J_CSx S_X10_isMadeOf rfl rfl (by simp) (hv 0) rfl ?_
          refine J_iald S_X10_isMadeOf rfl (by assumption) (by omega) (j := 615 + 9 * k + 0) rfl (by omega) (by decide) ?_
          refine J_C S_X10_isMadeOf rfl ?_
          refine J_cmp S_X10_isMadeOf rfl (fun c19 => False.elim (c19 h4)) (fun c19 => ?_)
          refine J_ald S_X10_isMadeOf rfl rfl ?_
          refine J_getR S_X10_isMadeOf rfl (o' := 314) (by assumption) (by omega) rfl ?_
          refine J_ild S_X10_isMadeOf rfl rfl ?_
          refine J_C S_X10_isMadeOf rfl ?_
          refine J_CSx S_X10_isMadeOf rfl rfl (by simp) (hv 2) rfl ?_
          refine J_iald S_X10_isMadeOf rfl (by assumption) (by omega) (j := 615 + 9 * k + 2) rfl (by omega) (by decide) ?_
          refine J_ild S_X10_isMadeOf rfl rfl ?_
          refine J_cmp S_X10_isMadeOf rfl (fun c33 => False.elim (ha c33)) (fun c33 => ?_)
          refine J_ald S_X10_isMadeOf rfl rfl ?_
          refine J_getR S_X10_isMadeOf rfl (o' := 314) (by assumption) (by omega) rfl ?_
          refine J_ild S_X10_isMadeOf rfl rfl ?_
          refine J_C S_X10_isMadeOf rfl ?_
          refine J_CSx S_X10_isMadeOf rfl rfl (by simp) (hv 3) rfl ?_
          refine J_iald S_X10_isMadeOf rfl (by assumption) (by omega) (j := 615 + 9 * k + 3) rfl (by omega) (by decide) ?_
          refine J_ild S_X10_isMadeOf rfl rfl ?_
          refine J_cmp S_X10_isMadeOf rfl (fun c47 => False.elim (c47 hb)) (fun c47 => ?_)
          refine J_C S_X10_isMadeOf rfl ?_
          refine J_goto S_X10_isMadeOf rfl ?_
          refine J_retZ S_X10_isMadeOf rfl (by decide) ?_
          exact ⟨rfl, rfl⟩
        · have e : made (I 314) x k = false := by unfold made; rw [decide_eq_false ha, decide_eq_false hb]; simp
          rw [e]
          refine J_ald S_X10_isMadeOf rfl rfl ?_
          refine J_ild S_X10_isMadeOf rfl rfl ?_
          refine J_CVx S_X10_isMadeOf rfl rfl (by assumption) (by omega) (by simp) (hiv) rfl ?_
          refine J_if S_X10_isMadeOf rfl (fun c5 => False.elim (absurd c5 (by decide))) (fun c5 => ?_)
          refine J_ald S_X10_isMadeOf rfl rfl ?_
          refine J_getR S_X10_isMadeOf rfl (o' := 314) (by assumption) (by omega) rfl ?_
          refine J_ild S_X10_isMadeOf rfl rfl ?_
          refine J_C S_X10_isMadeOf rfl ?_
          refine J_CSx S_X10_isMadeOf rfl rfl (by simp) (hv 0) rfl ?_
          refine J_iald S_X10_isMadeOf rfl (by assumption) (by omega) (j := 615 + 9 * k + 0) rfl (by omega) (by decide) ?_
          refine J_C S_X10_isMadeOf rfl ?_
          refine J_cmp S_X10_isMadeOf rfl (fun c19 => False.elim (c19 h4)) (fun c19 => ?_)
          refine J_ald S_X10_isMadeOf rfl rfl ?_
          refine J_getR S_X10_isMadeOf rfl (o' := 314) (by assumption) (by omega) rfl ?_
          refine J_ild S_X10_isMadeOf rfl rfl ?_
          refine J_C S_X10_isMadeOf rfl ?_
          refine J_CSx S_X10_isMadeOf rfl rfl (by simp) (hv 2) rfl ?_
          refine J_iald S_X10_isMadeOf rfl (by assumption) (by omega) (j := 615 + 9 * k + 2) rfl (by omega) (by decide) ?_
          refine J_ild S_X10_isMadeOf rfl rfl ?_
          refine J_cmp S_X10_isMadeOf rfl (fun c33 => False.elim (ha c33)) (fun c33 => ?_)
          refine J_ald S_X10_isMadeOf rfl rfl ?_
          refine J_getR S_X10_isMadeOf rfl (o' := 314) (by assumption) (by omega) rfl ?_
          refine J_ild S_X10_isMadeOf rfl rfl ?_
          refine J_C S_X10_isMadeOf rfl ?_
          refine J_CSx S_X10_isMadeOf rfl rfl (by simp) (hv 3) rfl ?_
          refine J_iald S_X10_isMadeOf rfl (by assumption) (by omega) (j := 615 + 9 * k + 3) rfl (by omega) (by decide) ?_
          refine J_ild S_X10_isMadeOf rfl rfl ?_
          refine J_cmp S_X10_isMadeOf rfl (fun c47 => ?_) (fun c47 => False.elim (hb c47))
          refine J_C S_X10_isMadeOf rfl ?_
          refine J_retZ S_X10_isMadeOf rfl (by decide) ?_
          exact ⟨rfl, rfl⟩
    · have e : made (I 314) x k = false := by unfold made; rw [decide_eq_false h4]; simp
      rw [e]
      refine J_ald S_X10_isMadeOf rfl rfl ?_
      refine J_ild S_X10_isMadeOf rfl rfl ?_
      refine J_CVx S_X10_isMadeOf rfl rfl (by assumption) (by omega) (by simp) (hiv) rfl ?_
      refine J_if S_X10_isMadeOf rfl (fun c5 => False.elim (absurd c5 (by decide))) (fun c5 => ?_)
      refine J_ald S_X10_isMadeOf rfl rfl ?_
      refine J_getR S_X10_isMadeOf rfl (o' := 314) (by assumption) (by omega) rfl ?_
      refine J_ild S_X10_isMadeOf rfl rfl ?_
      refine J_C S_X10_isMadeOf rfl ?_
      refine J_CSx S_X10_isMadeOf rfl rfl (by simp) (hv 0) rfl ?_
      refine J_iald S_X10_isMadeOf rfl (by assumption) (by omega) (j := 615 + 9 * k + 0) rfl (by omega) (by decide) ?_
      refine J_C S_X10_isMadeOf rfl ?_
      refine J_cmp S_X10_isMadeOf rfl (fun c19 => ?_) (fun c19 => False.elim (h4 c19))
      refine J_C S_X10_isMadeOf rfl ?_
      refine J_retZ S_X10_isMadeOf rfl (by decide) ?_
      exact ⟨rfl, rfl⟩
end M6
