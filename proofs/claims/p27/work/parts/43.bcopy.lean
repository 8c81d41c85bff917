section Bc
variable {I : mj_I} {b : Nat} {v : mv}
theorem mj_cp_eq {o : Nat} {f : Nat → Int32} : mj_cp I o f o = f := if_pos rfl
theorem mj_cp_ne {o o' : Nat} {f : Nat → Int32} (h : o' ≠ o) : mj_cp I o f o' = I o' := if_neg h
theorem vw_cp_ne {o q p : Nat} (h : p ≠ o) : vw_cp I o q p = I p := by
  unfold vw_cp
  simp only [mj_up_ne h]
theorem vw_cp_eq {o q f : Nat} (hf : f < 11) : vw_cp I o q o f = I q f := by
  have h : f = 0 ∨ f = 1 ∨ f = 2 ∨ f = 3 ∨ f = 4 ∨ f = 5 ∨ f = 6 ∨ f = 7 ∨ f = 8 ∨ f = 9 ∨ f = 10 := by omega
  unfold vw_cp
  simp only [mj_up_eq]
  rcases h with rfl | rfl | rfl | rfl | rfl | rfl | rfl | rfl | rfl | rfl | rfl <;> simp only [upd, if_true] <;> rfl
/-- the books at b hold the log of those at b' -/
def Lc (I I' : mj_I) (b b' n : Nat) : Prop := I' (b + 1) 2 = nI n ∧ ∀ j, j < n → I' (b + 2) j = I (b' + 2) j ∧ I' (b + 3) j = I (b' + 3) j
theorem C_X2_copy {b' : Nat} (hB : mj_isB b) (hB' : mj_isB b') (hd : b + 15 ≤ b' ∨ b' + 15 ≤ b) {n : Nat} (hn : n ≤ 200) (he : I (b' + 1) 2 = nI n) : mj_R D_X2_copyFrom [.inr (some (b + 1)), .inr (some (b' + 1))] (mj_w I) (mj_px (fun r I' => r = none ∧ Fr b I I' ∧ Lc I I' b b' n)) := by
  refine mj_R.mono (C_X2_copyFrom hB hB' hn he) ?_
  rintro r M' ⟨rfl, rfl⟩
  refine ⟨_, rfl, rfl, fun o ho => ?_, ?_, fun j hj => ⟨?_, ?_⟩⟩
  · rw [mj_up_ne (by omega), mj_cp_ne (by omega), mj_cp_ne (by omega)]
  · rw [mj_up_eq, up_s]
  · rw [mj_up_ne (by omega), mj_cp_ne (by omega), mj_cp_eq, pk_cpy_in (by omega) (by omega)]
    congr 1
    omega
  · rw [mj_up_ne (by omega), mj_cp_eq, pk_cpy_in (by omega) (by omega), mj_cp_ne (by omega)]
    congr 1
    omega
theorem C_X0_copyFrom {b' : Nat} (hB : mj_isB b) (hB' : mj_isB b') (hd : b + 15 ≤ b' ∨ b' + 15 ≤ b) (hR : RB I b' v) (hI : IV v) : mj_R D_X0_copyFrom [.inr (some b), .inr (some b')] (mj_w I) (mj_px (fun r I' => r = none ∧ RB I' b v ∧ Fr b I I')) := by
  have hBb := hB
  have hBb' := hB'
  obtain ⟨h0, h1, h2, h3, h4, h5, h6, hv, hb⟩ := hB
  obtain ⟨g0, g1, g2, g3, g4, g5, g6, gv, gb⟩ := hB'
  have hl0 := hI.1.2
  have hne : b' ≠ b := by omega
  obtain ⟨R1, R2, R3, R4, R5⟩ := hR
  have hlog := C_X2_copy (I := I) hBb hBb' hd hl0 (R1.trans hI.1.1)
  refine mj_enter (by decide +kernel) (Nat.le_of_ble_eq_true rfl) ?_
  -- the settings
  have key2 : ∀ (s k : Nat) (I' : mj_I), k + s = 6 → Fr b I I' → Lc I I' b b' (tn (v 0)) → (∀ i, i < 8 → ∀ f, f < 11 → I' (b + 7 + i) f = I (b' + 7 + i) f) → (∀ i, i < k → I' (b + 5) i = v (9 + i)) →
      mj_J D_X0_copyFrom (mj_px (fun r I' => r = none ∧ RB I' b v ∧ Fr b I I')) 72 [some (.inr (some b)), some (.inr (some b')), some (.inl (nI k))] [] (mj_w I') (0, 0) := by
    intro s
    induction s with
    | zero =>
      intro k I' hk hF hL hV hS
      obtain rfl : k = 6 := by omega
      have ea : ∀ i, i < 8 → I' b' (4 + i) = v (1 + i) := fun i hi => by rw [hF b' (by omega)]; exact R2 i hi
      have fin : ∀ I2 : mj_I, (∀ o, o ≠ b → I2 o = I' o) → (∀ i, i < 8 → I2 b (4 + i) = I' b' (4 + i)) → RB I2 b v ∧ Fr b I I2 := by
        intro I2 hF2 hA
        refine ⟨⟨?_, fun i hi => by rw [hA i hi, ea i hi], fun i hi => by rw [hF2 _ (by omega)]; exact hS i hi, fun j hj => ?_, fun k hk => ?_⟩, fun o ho => by rw [hF2 o (by omega)]; exact hF o ho⟩
        · rw [hF2 _ (by omega), hL.1]; exact hI.1.1.symm
        · rw [hF2 _ (by omega), hF2 _ (by omega), (hL.2 j hj).1, (hL.2 j hj).2]; exact R4 j hj
        · rw [hF2 _ (by omega)]
          obtain ⟨x1, x2, x3⟩ := R5 k hk
          have e := hV k hk
          refine ⟨by rw [e 0 (by decide)]; exact x1, ⟨by rw [e 7 (by decide)]; exact x2.1, fun hh => by rw [e 10 (by decide)]; exact x2.2 hh⟩, fun he => ?_⟩
          obtain ⟨r1, r2, r3, r4, r5, r6, r7, r8, r9, r10⟩ := x3 he
          exact ⟨by rw [e 1 (by decide)]; exact r1, by rw [e 2 (by decide)]; exact r2, by rw [e 3 (by decide)]; exact r3, by rw [e 4 (by decide)]; exact r4, by rw [e 5 (by decide)]; exact r5, by rw [e 6 (by decide)]; exact r6, by rw [e 7 (by decide)]; exact r7, by rw [e 8 (by decide)]; exact r8, by rw [e 9 (by decide)]; exact r9, by rw [e 10 (by decide)]; exact r10⟩
      refine J_ild S_X0_copyFrom rfl rfl ?_
      refine J_ald S_X0_copyFrom rfl rfl ?_
      refine J_getR S_X0_copyFrom rfl (by assumption) (by omega) rfl ?_
      refine J_len S_X0_copyFrom rfl (by assumption) (by omega) (by decide) ?_
      refine J_cmp S_X0_copyFrom rfl (fun c78 => ?_) (fun c78 => False.elim (c78 (by decide)))
      refine J_ald S_X0_copyFrom rfl rfl ?_
      refine J_ald S_X0_copyFrom rfl rfl ?_
      refine J_getI S_X0_copyFrom rfl (by assumption) (by omega) ?_
      refine J_putI S_X0_copyFrom rfl (by assumption) (by omega) ?_
      refine J_ald S_X0_copyFrom rfl rfl ?_
      refine J_ald S_X0_copyFrom rfl rfl ?_
      refine J_getI S_X0_copyFrom rfl (by assumption) (by omega) ?_
      refine J_putI S_X0_copyFrom rfl (by assumption) (by omega) ?_
      refine J_ald S_X0_copyFrom rfl rfl ?_
      refine J_ald S_X0_copyFrom rfl rfl ?_
      refine J_getI S_X0_copyFrom rfl (by assumption) (by omega) ?_
      refine J_putI S_X0_copyFrom rfl (by assumption) (by omega) ?_
      refine J_ald S_X0_copyFrom rfl rfl ?_
      refine J_ald S_X0_copyFrom rfl rfl ?_
      refine J_getI S_X0_copyFrom rfl (by assumption) (by omega) ?_
      refine J_putI S_X0_copyFrom rfl (by assumption) (by omega) ?_
      refine J_ald S_X0_copyFrom rfl rfl ?_
      refine J_ald S_X0_copyFrom rfl rfl ?_
      refine J_getI S_X0_copyFrom rfl (by assumption) (by omega) ?_
      refine J_putI S_X0_copyFrom rfl (by assumption) (by omega) ?_
      refine J_ald S_X0_copyFrom rfl rfl ?_
      refine J_ald S_X0_copyFrom rfl rfl ?_
      refine J_getI S_X0_copyFrom rfl (by assumption) (by omega) ?_
      refine J_putI S_X0_copyFrom rfl (by assumption) (by omega) ?_
      refine J_ald S_X0_copyFrom rfl rfl ?_
      refine J_ald S_X0_copyFrom rfl rfl ?_
      refine J_getI S_X0_copyFrom rfl (by assumption) (by omega) ?_
      refine J_putI S_X0_copyFrom rfl (by assumption) (by omega) ?_
      refine J_ald S_X0_copyFrom rfl rfl ?_
      refine J_ald S_X0_copyFrom rfl rfl ?_
      refine J_getI S_X0_copyFrom rfl (by assumption) (by omega) ?_
      refine J_putI S_X0_copyFrom rfl (by assumption) (by omega) ?_
      refine J_retV S_X0_copyFrom rfl ?_
      refine ⟨_, rfl, rfl, fin _ (fun o ho => by simp only [mj_up_ne ho]) (fun i hi => ?_)⟩
      simp only [mj_up_ne hne, mj_up_eq]
      have h8 : i = 0 ∨ i = 1 ∨ i = 2 ∨ i = 3 ∨ i = 4 ∨ i = 5 ∨ i = 6 ∨ i = 7 := by omega
      rcases h8 with rfl|rfl|rfl|rfl|rfl|rfl|rfl|rfl <;> simp only [upd, if_true] <;> rfl
    | succ s ih =>
      intro k I' hk hF hL hV hS
      have hk6 : k < 6 := by omega
      have hs := C_X0_setting (I := I') hBb' hk6
      rw [hF (b' + 5) (by omega), R3 k hk6] at hs
      have g := ih (k + 1) (mj_up I' (b + 5) k (v (9 + k))) (by omega) (fr_up hF (by omega) (by omega)) ⟨by rw [mj_up_ne (by omega)]; exact hL.1, fun j hj => by rw [mj_up_ne (by omega), mj_up_ne (by omega)]; exact hL.2 j hj⟩ (fun i hi f hf => by rw [mj_up_ne (by omega)]; exact hV i hi f hf) (fun i hi => by
        rw [mj_up_eq]
        by_cases e : i = k
        · rw [e, up_s]
        · rw [up_n e]; exact hS i (by omega))
      refine J_ild S_X0_copyFrom rfl rfl ?_
      refine J_ald S_X0_copyFrom rfl rfl ?_
      refine J_getR S_X0_copyFrom rfl (by assumption) (by omega) rfl ?_
      refine J_len S_X0_copyFrom rfl (by assumption) (by omega) (by decide) ?_
      refine J_cmp S_X0_copyFrom rfl (fun c78 => False.elim (nI_ge (b := 6) hk6 (by decide) c78)) (fun c78 => ?_)
      refine J_ald S_X0_copyFrom rfl rfl ?_
      refine J_getR S_X0_copyFrom rfl (by assumption) (by omega) rfl ?_
      refine J_ild S_X0_copyFrom rfl rfl ?_
      refine J_ald S_X0_copyFrom rfl rfl ?_
      refine J_ild S_X0_copyFrom rfl rfl ?_
      refine J_CVx S_X0_copyFrom rfl rfl (by assumption) (by omega) (by simp) (hs) rfl ?_
      refine J_iast S_X0_copyFrom rfl (by assumption) (by omega) rfl hk6 (by decide) ?_
      refine J_inc S_X0_copyFrom rfl rfl rfl ?_
      refine J_goto S_X0_copyFrom rfl ?_
      rw [← nI_succ]
      exact g
  -- the views
  have key : ∀ (s k : Nat) (I' : mj_I), k + s = 8 → Fr b I I' → Lc I I' b b' (tn (v 0)) → (∀ i, i < k → ∀ f, f < 11 → I' (b + 7 + i) f = I (b' + 7 + i) f) →
      mj_J D_X0_copyFrom (mj_px (fun r I' => r = none ∧ RB I' b v ∧ Fr b I I')) 13 [some (.inr (some b)), some (.inr (some b')), some (.inl (nI k))] [] (mj_w I') (0, 0) := by
    intro s
    induction s with
    | zero =>
      intro k I' hk hF hL hV
      obtain rfl : k = 8 := by omega
      have g := key2 6 0 I' rfl hF hL hV (fun i hi => absurd hi (Nat.not_lt_zero i))
      refine J_ild S_X0_copyFrom rfl rfl ?_
      refine J_ald S_X0_copyFrom rfl rfl ?_
      refine J_getR S_X0_copyFrom rfl (by assumption) (by omega) rfl ?_
      refine J_len S_X0_copyFrom rfl (by assumption) (by omega) (by decide) ?_
      refine J_cmp S_X0_copyFrom rfl (fun c19 => ?_) (fun c19 => False.elim (c19 (by decide)))
      refine J_C S_X0_copyFrom rfl ?_
      refine J_ist S_X0_copyFrom rfl rfl ?_
      exact g
    | succ s ih =>
      intro k I' hk hF hL hV
      have hk8 : k < 8 := by omega
      have hvk := hv k hk8
      have gvk := gv k hk8
      have eF : I' (b' + 7 + k) = I (b' + 7 + k) := hF _ (by omega)
      have hcp := C_X8_copyFrom (I := I') (o := b + 7 + k) (q := b' + 7 + k) hvk (by omega) gvk (by omega) (by omega) (by rw [eF, (R5 k hk8).1]; exact hI.b01 hk8) (by rw [eF]; exact (R5 k hk8).2.1.1)
      have g := ih (k + 1) (vw_cp I' (b + 7 + k) (b' + 7 + k)) (by omega) (fun o ho => by rw [vw_cp_ne (by omega)]; exact hF o ho) ⟨by rw [vw_cp_ne (by omega)]; exact hL.1, fun j hj => by rw [vw_cp_ne (by omega), vw_cp_ne (by omega)]; exact hL.2 j hj⟩ (fun i hi f hf => by
        by_cases e : i = k
        · rw [e, vw_cp_eq hf, eF]
        · rw [vw_cp_ne (by omega)]; exact hV i (by omega) f hf)
      refine J_ild S_X0_copyFrom rfl rfl ?_
      refine J_ald S_X0_copyFrom rfl rfl ?_
      refine J_getR S_X0_copyFrom rfl (by assumption) (by omega) rfl ?_
      refine J_len S_X0_copyFrom rfl (by assumption) (by omega) (by decide) ?_
      refine J_cmp S_X0_copyFrom rfl (fun c19 => False.elim (nI_ge (b := 8) hk8 (by decide) c19)) (fun c19 => ?_)
      refine J_ild S_X0_copyFrom rfl rfl ?_
      refine J_ald S_X0_copyFrom rfl rfl ?_
      refine J_getR S_X0_copyFrom rfl (by assumption) (by omega) rfl ?_
      refine J_len S_X0_copyFrom rfl (by assumption) (by omega) (by decide) ?_
      refine J_cmp S_X0_copyFrom rfl (fun c28 => False.elim (nI_ge (b := 8) hk8 (by decide) c28)) (fun c28 => ?_)
      refine J_ald S_X0_copyFrom rfl rfl ?_
      refine J_getR S_X0_copyFrom rfl (by assumption) (by omega) rfl ?_
      refine J_ild S_X0_copyFrom rfl rfl ?_
      refine J_aald S_X0_copyFrom rfl (by assumption) (by omega) rfl (by omega) (by decide) rfl ?_
      refine J_nuS S_X0_copyFrom rfl ?_
      refine J_ald S_X0_copyFrom rfl rfl ?_
      refine J_getR S_X0_copyFrom rfl (by assumption) (by omega) rfl ?_
      refine J_ild S_X0_copyFrom rfl rfl ?_
      refine J_aald S_X0_copyFrom rfl (by assumption) (by omega) rfl (by omega) (by decide) rfl ?_
      refine J_nuS S_X0_copyFrom rfl ?_
      refine J_ald S_X0_copyFrom rfl rfl ?_
      refine J_getR S_X0_copyFrom rfl (by assumption) (by omega) rfl ?_
      refine J_ild S_X0_copyFrom rfl rfl ?_
      refine J_aald S_X0_copyFrom rfl (by assumption) (by omega) rfl (by omega) (by decide) rfl ?_
      refine J_ald S_X0_copyFrom rfl rfl ?_
      refine J_getR S_X0_copyFrom rfl (by assumption) (by omega) rfl ?_
      refine J_ild S_X0_copyFrom rfl rfl ?_
      refine J_aald S_X0_copyFrom rfl (by assumption) (by omega) rfl (by omega) (by decide) rfl ?_
      refine J_CVx S_X0_copyFrom rfl rfl (by assumption) (by omega) (by simp) (hcp) rfl ?_
      refine J_inc S_X0_copyFrom rfl rfl rfl ?_
      refine J_goto S_X0_copyFrom rfl ?_
      rw [← nI_succ]
      exact g
  refine J_ald S_X0_copyFrom rfl rfl ?_
  refine J_getR S_X0_copyFrom rfl (by assumption) (by omega) rfl ?_
  refine J_ald S_X0_copyFrom rfl rfl ?_
  refine J_getR S_X0_copyFrom rfl (by assumption) (by omega) rfl ?_
  refine J_CV S_X0_copyFrom rfl rfl (by assumption) (by omega) (by simp) (hlog) ?_
  rintro _ _ ⟨I2, rfl, rfl, hF, hL⟩
  refine J_C S_X0_copyFrom rfl ?_
  refine J_ist S_X0_copyFrom rfl rfl ?_
  exact key 8 0 I2 rfl hF hL (fun i hi => absurd hi (Nat.not_lt_zero i))
end Bc
