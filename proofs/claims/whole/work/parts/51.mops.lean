/-- the reference noted its n states' past and stands at w' -/
def MN (n : Nat) (I I' : mj_I) (w' : mv) : Prop := (∀ q, q ≠ 313 → q ≠ 314 → q ≠ 315 → q ≠ 317 → q ≠ 318 → q ≠ 319 → q ≠ 320 → I' q = I q) ∧ I' 314 = w' ∧ (∃ d m, NT n d m (I 315) (I 314) (I' 315) ∧ I' 313 2 = nI (m + 1)) ∧ I' 313 4 = I 313 4
section Mo
variable {I : mj_I}
theorem mn_no {n : Nat} {I1 : mj_I} (h1 : ∀ q, q ≠ 313 → q ≠ 315 → I1 q = I q) (h2 : ∀ f, f ≠ 2 → I1 313 f = I 313 f) (h3 : ∃ d m, NT n d m (I 315) (I 314) (I1 315) ∧ I1 313 2 = nI (m + 1)) : MN n I I1 (I 314) :=
  ⟨fun q a _ c _ _ _ _ => h1 q a c, h1 314 (by decide) (by decide), h3, h2 4 (by decide)⟩
theorem mn_up {n : Nat} {I1 : mj_I} {w : mv} {i : Nat} {x : Int32} (h : MN n I I1 w) : MN n I (mj_up I1 314 i x) (upd w i x) := by
  obtain ⟨h1, h2, ⟨d, m, h3, h4⟩, h5⟩ := h
  exact ⟨fun q a b c d e f g => by rw [mj_up_ne b]; exact h1 q a b c d e f g, by rw [mj_up_eq, h2], ⟨d, m, by rw [mj_up_ne (by decide)]; exact h3, by rw [mj_up_ne (by decide)]; exact h4⟩, by rw [mj_up_ne (by decide)]; exact h5⟩
theorem C_X10_set {n i : Nat} {x : Int32} (h2 : I 313 2 = nI n) (hn : n ≤ 5) (hi : i < 6) (hs : mj_R D_X10_isSetting [.inl (nI i), .inl x] (mj_w I) (mj_ex (some (.inl 1)) I)) : mj_R D_X10_set [.inr (some 313), .inl (nI i), .inl x] (mj_w I) (mj_px (fun r I' => r = some (.inl (I 314 (9 + i))) ∧ MN n I I' (upd (I 314) (9 + i) x))) := by
  have m0 := s_313
  have m1 := s_314
  have hno := C_X10_notes h2 hn
  have e : (9 : Int32) + nI i = nI (9 + i) := nI_add 9 i
  refine mj_enter (by decide +kernel) (Nat.le_of_ble_eq_true rfl) ?_
  refine J_ild S_X10_set rfl rfl ?_
  refine J_ild S_X10_set rfl rfl ?_
  refine J_CSx S_X10_set rfl rfl (by simp) (hs) rfl ?_
  refine J_if S_X10_set rfl (fun c5 => ?_) (fun c5 => False.elim (absurd c5 (by decide)))
  refine J_ald S_X10_set rfl rfl ?_
  refine J_CV S_X10_set rfl rfl (by assumption) (by omega) (by simp) (hno) ?_
  rintro _ _ ⟨I1, rfl, rfl, f1, f2, f3⟩
  refine J_ald S_X10_set rfl rfl ?_
  refine J_getR S_X10_set rfl (o' := 314) (by assumption) (by omega) rfl ?_
  refine J_C S_X10_set rfl ?_
  refine J_ild S_X10_set rfl rfl ?_
  refine J_bin S_X10_set rfl ?_
  rw [e]
  refine J_iald S_X10_set rfl (by assumption) (by omega) (j := 9 + i) rfl (by omega) (by decide) ?_
  refine J_ist S_X10_set rfl rfl ?_
  refine J_ald S_X10_set rfl rfl ?_
  refine J_getR S_X10_set rfl (o' := 314) (by assumption) (by omega) rfl ?_
  refine J_C S_X10_set rfl ?_
  refine J_ild S_X10_set rfl rfl ?_
  refine J_bin S_X10_set rfl ?_
  rw [e]
  refine J_ild S_X10_set rfl rfl ?_
  refine J_iast S_X10_set rfl (by assumption) (by omega) (j := 9 + i) rfl (by omega) (by decide) ?_
  refine J_ild S_X10_set rfl rfl ?_
  refine J_retI S_X10_set rfl ?_
  rw [f1 314 (by decide) (by decide)]
  exact ⟨_, rfl, rfl, mn_up (mn_no f1 f2 f3)⟩
theorem C_X10_tick (hI : IV (I 314)) {n : Nat} (h2 : I 313 2 = nI n) (hn : n ≤ 5) (hc : tn (I 314 2) + tn (I 314 12) ≤ 9999) : mj_R D_X10_tick [.inr (some 313)] (mj_w I) (mj_px (fun r I' => r = some (.inl (nI (msk (fun q => tkB (tkV (I 314) q) q) (tn (I 314 1))))) ∧ MN n I I' (tkE (tkV (I 314) (tn (I 314 1)))))) := by
  have m0 := s_313
  have m1 := s_314
  have hno := C_X10_notes h2 hn
  obtain ⟨df, hdf, hdl⟩ : ∃ d, I 314 1 = nI d ∧ d ≤ 8 := ⟨_, hI.2.1.1, hI.2.1.2⟩
  have hdt : tn (I 314 1) = df := by rw [hdf, tn_nI (by omega)]
  have h12 := (hI.2.2.2.1 3 (by decide)).1
  have e2 : I 314 2 = nI (tn (I 314 2)) := hI.2.2.1.1
  have e12 : I 314 12 = nI (tn (I 314 12)) := h12.1
  rw [hdt]
  refine mj_enter (by decide +kernel) (Nat.le_of_ble_eq_true rfl) ?_
  have key : ∀ (s k : Nat) (I' : mj_I), k + s = df → MN n I I' (tkV (I 314) k) →
      mj_J D_X10_tick (mj_px (fun r I' => r = some (.inl (nI (msk (fun q => tkB (tkV (I 314) q) q) df))) ∧ MN n I I' (tkE (tkV (I 314) df)))) 31 [some (.inr (some 313)), some (.inl (nI (msk (fun q => tkB (tkV (I 314) q) q) k))), some (.inl (nI k))] [] (mj_w I') (0, 0) := by
    intro s
    induction s with
    | zero =>
      intro k I' hk hM
      obtain rfl : k = df := by omega
      have e314 := hM.2.1
      have g1 : I' 314 1 = nI k := by rw [e314, tkV_o (by decide) (fun q => by omega)]; exact hdf
      have hf := mn_up (i := 8) (x := tkV (I 314) k 8 + 1) (mn_up (i := 3) (x := tkV (I 314) k 3 + tkV (I 314) k 12) (mn_up (i := 2) (x := tkV (I 314) k 2 + tkV (I 314) k 12) hM))
      refine J_ild S_X10_tick rfl rfl ?_
      refine J_ald S_X10_tick rfl rfl ?_
      refine J_getR S_X10_tick rfl (o' := 314) (by assumption) (by omega) rfl ?_
      refine J_C S_X10_tick rfl ?_
      refine J_iald S_X10_tick rfl (by assumption) (by omega) (j := 1) rfl (by omega) (by decide) ?_
      rw [g1]
      refine J_cmp S_X10_tick rfl (fun c38 => ?_) (fun c38 => False.elim (c38 (Int32.le_refl _)))
      refine J_ald S_X10_tick rfl rfl ?_
      refine J_getR S_X10_tick rfl (o' := 314) (by assumption) (by omega) rfl ?_
      refine J_C S_X10_tick rfl ?_
      refine J_dup2 S_X10_tick rfl ?_
      refine J_iald S_X10_tick rfl (by assumption) (by omega) (j := 2) rfl (by omega) (by decide) ?_
      refine J_ald S_X10_tick rfl rfl ?_
      refine J_getR S_X10_tick rfl (o' := 314) (by assumption) (by omega) rfl ?_
      refine J_C S_X10_tick rfl ?_
      refine J_iald S_X10_tick rfl (by assumption) (by omega) (j := 12) rfl (by omega) (by decide) ?_
      refine J_bin S_X10_tick rfl ?_
      refine J_iast S_X10_tick rfl (by assumption) (by omega) (j := 2) rfl (by omega) (by decide) ?_
      refine J_ald S_X10_tick rfl rfl ?_
      refine J_getR S_X10_tick rfl (o' := 314) (by assumption) (by omega) rfl ?_
      refine J_C S_X10_tick rfl ?_
      refine J_dup2 S_X10_tick rfl ?_
      refine J_iald S_X10_tick rfl (by assumption) (by omega) (j := 3) rfl (by omega) (by decide) ?_
      refine J_ald S_X10_tick rfl rfl ?_
      refine J_getR S_X10_tick rfl (o' := 314) (by assumption) (by omega) rfl ?_
      refine J_C S_X10_tick rfl ?_
      refine J_iald S_X10_tick rfl (by assumption) (by omega) (j := 12) rfl (by omega) (by decide) ?_
      refine J_bin S_X10_tick rfl ?_
      refine J_iast S_X10_tick rfl (by assumption) (by omega) (j := 3) rfl (by omega) (by decide) ?_
      refine J_ald S_X10_tick rfl rfl ?_
      refine J_getR S_X10_tick rfl (o' := 314) (by assumption) (by omega) rfl ?_
      refine J_C S_X10_tick rfl ?_
      refine J_dup2 S_X10_tick rfl ?_
      refine J_iald S_X10_tick rfl (by assumption) (by omega) (j := 8) rfl (by omega) (by decide) ?_
      refine J_C S_X10_tick rfl ?_
      refine J_bin S_X10_tick rfl ?_
      refine J_iast S_X10_tick rfl (by assumption) (by omega) (j := 8) rfl (by omega) (by decide) ?_
      refine J_ild S_X10_tick rfl rfl ?_
      refine J_retI S_X10_tick rfl ?_
      refine ⟨_, rfl, rfl, ?_⟩
      simp only [mj_up_eq, up_n (show (3 : Nat) ≠ 2 by decide), up_n (show (12 : Nat) ≠ 2 by decide), up_n (show (8 : Nat) ≠ 3 by decide), up_n (show (8 : Nat) ≠ 2 by decide), e314]
      exact hf
    | succ s ih =>
      intro k I' hk hM
      have hk8 : k < 8 := by omega
      have hIk := tkV_I hI k (by omega)
      have e314 := hM.2.1
      have u1 : tkV (I 314) k 1 = nI df := by rw [tkV_o (by decide) (fun q => by omega)]; exact hdf
      have hm := tk_msk (fun q => tkB (tkV (I 314) q) q) (k := k) (by omega)
      have nx : ∀ (I2 : mj_I) (x : Int32), MN n I I2 (tkS (tkV (I 314) k) k) → x = (if tkB (tkV (I 314) k) k = true then 1 <<< (nI k &&& 31) else 0) → mj_J D_X10_tick (mj_px (fun r I' => r = some (.inl (nI (msk (fun q => tkB (tkV (I 314) q) q) df))) ∧ MN n I I' (tkE (tkV (I 314) df)))) 31 [some (.inr (some 313)), some (.inl (nI (msk (fun q => tkB (tkV (I 314) q) q) k) ||| x)), some (.inl (nI k + 1))] [] (mj_w I2) (0, 0) := by
        intro I2 x hM2 hx
        rw [hx, hm, ← nI_succ]
        exact ih (k + 1) I2 (by omega) hM2
      generalize hu : tkV (I 314) k = u at *
      have g1 : I' 314 1 = nI df := by rw [e314]; exact u1
      have hI' : IV (I' 314) := by rw [e314]; exact hIk
      have hiv := C_X10_isView (I := I') hI' (x := nI k)
      rw [isV_nI hk8, e314] at hiv
      have hib := C_X10_isBankrupt (I := I') hk8
      rw [e314] at hib
      have hkd : k < df := by omega
      rcases hIk.b01 hk8 with he | he
      · rw [ex_f he] at hiv
        have g := nx I' 0 (by unfold tkS; rw [if_neg (fun g => by rw [he] at g; exact absurd g.1 (by decide))]; exact hM) (by unfold tkB; rw [ex_f he]; rfl)
        rw [Int32.or_zero] at g
        refine J_ild S_X10_tick rfl rfl ?_
        refine J_ald S_X10_tick rfl rfl ?_
        refine J_getR S_X10_tick rfl (o' := 314) (by assumption) (by omega) rfl ?_
        refine J_C S_X10_tick rfl ?_
        refine J_iald S_X10_tick rfl (by assumption) (by omega) (j := 1) rfl (by omega) (by decide) ?_
        rw [g1]
        refine J_cmp S_X10_tick rfl (fun c38 => False.elim (nI_ge hkd (by omega) c38)) (fun c38 => ?_)
        refine J_ald S_X10_tick rfl rfl ?_
        refine J_ild S_X10_tick rfl rfl ?_
        refine J_CVx S_X10_tick rfl rfl (by assumption) (by omega) (by simp) (hiv) rfl ?_
        refine J_if S_X10_tick rfl (fun c46 => ?_) (fun c46 => False.elim (c46 rfl))
        refine J_inc S_X10_tick rfl rfl rfl ?_
        refine J_goto S_X10_tick rfl ?_
        exact g
      · rw [ex_t he] at hiv
        obtain ⟨-, -, -, -, -, -, -, -, -, w5, -⟩ := hIk.wv hk8 he
        have hut : tn (u 1) = df := by rw [u1, tn_nI (by omega)]
        rcases rg_01 w5 with hz | hz
        · rw [hz] at hib
          have har := C_X10_arrears (I := I') hI' (k := k) (by rw [e314, hut]; exact hkd)
          rw [e314, arrM_ex he] at har
          have hv7 := fun J => C_X10_v (I := J) (k := k) (f := 7)
          have hv5 := fun J => C_X10_v (I := J) (k := k) (f := 5)
          have ed : I' 314 (615 + 9 * k + 7) + I' 314 9 * nI (arr u k) = tkD u k := by rw [e314]; rfl
          have g11 : mj_up I' 314 (615 + 9 * k + 7) (tkD u k) 314 11 = u 11 := by rw [mj_up_eq, up_n (by omega), e314]
          have g7 : mj_up I' 314 (615 + 9 * k + 7) (tkD u k) 314 7 = u 7 := by rw [mj_up_eq, up_n (by omega), e314]
          have gd : mj_up I' 314 (615 + 9 * k + 7) (tkD u k) 314 (615 + 9 * k + 7) = tkD u k := by rw [mj_up_eq, up_s]
          have M1 := mn_up (i := 615 + 9 * k + 7) (x := tkD u k) hM
          by_cases hd : u 11 < tkD u k
          · have M4 := mn_up (i := 615 + 9 * k + 5) (x := 1) (mn_up (i := 615 + 9 * k + 7) (x := 0) (mn_up (i := 7) (x := u 7 + tkD u k) M1))
            have g := nx _ (1 <<< (nI k &&& 31)) (by unfold tkS; rw [if_pos ⟨he, hz⟩, if_pos hd]; exact M4) (by unfold tkB; rw [ex_t he, hz, decide_eq_true hd]; rfl)
            refine J_ild S_X10_tick rfl rfl ?_
            refine J_ald S_X10_tick rfl rfl ?_
            refine J_getR S_X10_tick rfl (o' := 314) (by assumption) (by omega) rfl ?_
            refine J_C S_X10_tick rfl ?_
            refine J_iald S_X10_tick rfl (by assumption) (by omega) (j := 1) rfl (by omega) (by decide) ?_
            rw [g1]
            refine J_cmp S_X10_tick rfl (fun c38 => False.elim (nI_ge hkd (by omega) c38)) (fun c38 => ?_)
            refine J_ald S_X10_tick rfl rfl ?_
            refine J_ild S_X10_tick rfl rfl ?_
            refine J_CVx S_X10_tick rfl rfl (by assumption) (by omega) (by simp) (hiv) rfl ?_
            refine J_if S_X10_tick rfl (fun c46 => False.elim (absurd c46 (by decide))) (fun c46 => ?_)
            refine J_ald S_X10_tick rfl rfl ?_
            refine J_ild S_X10_tick rfl rfl ?_
            refine J_CVx S_X10_tick rfl rfl (by assumption) (by omega) (by simp) (hib) rfl ?_
            refine J_if S_X10_tick rfl (fun c54 => ?_) (fun c54 => False.elim (c54 rfl))
            refine J_ald S_X10_tick rfl rfl ?_
            refine J_getR S_X10_tick rfl (o' := 314) (by assumption) (by omega) rfl ?_
            refine J_ild S_X10_tick rfl rfl ?_
            refine J_C S_X10_tick rfl ?_
            refine J_CSx S_X10_tick rfl rfl (by simp) (hv7 _) rfl ?_
            refine J_dup2 S_X10_tick rfl ?_
            refine J_iald S_X10_tick rfl (by assumption) (by omega) (j := 615 + 9 * k + 7) rfl (by omega) (by decide) ?_
            refine J_ald S_X10_tick rfl rfl ?_
            refine J_getR S_X10_tick rfl (o' := 314) (by assumption) (by omega) rfl ?_
            refine J_C S_X10_tick rfl ?_
            refine J_iald S_X10_tick rfl (by assumption) (by omega) (j := 9) rfl (by omega) (by decide) ?_
            refine J_ald S_X10_tick rfl rfl ?_
            refine J_ild S_X10_tick rfl rfl ?_
            refine J_CVx S_X10_tick rfl rfl (by assumption) (by omega) (by simp) (har) rfl ?_
            refine J_bin S_X10_tick rfl ?_
            refine J_bin S_X10_tick rfl ?_
            rw [ed]
            refine J_iast S_X10_tick rfl (by assumption) (by omega) (j := 615 + 9 * k + 7) rfl (by omega) (by decide) ?_
            refine J_ald S_X10_tick rfl rfl ?_
            refine J_getR S_X10_tick rfl (o' := 314) (by assumption) (by omega) rfl ?_
            refine J_ild S_X10_tick rfl rfl ?_
            refine J_C S_X10_tick rfl ?_
            refine J_CSx S_X10_tick rfl rfl (by simp) (hv7 _) rfl ?_
            refine J_iald S_X10_tick rfl (by assumption) (by omega) (j := 615 + 9 * k + 7) rfl (by omega) (by decide) ?_
            rw [gd]
            refine J_ald S_X10_tick rfl rfl ?_
            refine J_getR S_X10_tick rfl (o' := 314) (by assumption) (by omega) rfl ?_
            refine J_C S_X10_tick rfl ?_
            refine J_iald S_X10_tick rfl (by assumption) (by omega) (j := 11) rfl (by omega) (by decide) ?_
            rw [g11]
            refine J_cmp S_X10_tick rfl (fun c105 => False.elim (Int32.not_le.mpr hd c105)) (fun c105 => ?_)
            refine J_ild S_X10_tick rfl rfl ?_
            refine J_C S_X10_tick rfl ?_
            refine J_ild S_X10_tick rfl rfl ?_
            refine J_bin S_X10_tick rfl ?_
            refine J_bin S_X10_tick rfl ?_
            refine J_ist S_X10_tick rfl rfl ?_
            refine J_ald S_X10_tick rfl rfl ?_
            refine J_getR S_X10_tick rfl (o' := 314) (by assumption) (by omega) rfl ?_
            refine J_C S_X10_tick rfl ?_
            refine J_dup2 S_X10_tick rfl ?_
            refine J_iald S_X10_tick rfl (by assumption) (by omega) (j := 7) rfl (by omega) (by decide) ?_
            rw [g7]
            refine J_ald S_X10_tick rfl rfl ?_
            refine J_getR S_X10_tick rfl (o' := 314) (by assumption) (by omega) rfl ?_
            refine J_ild S_X10_tick rfl rfl ?_
            refine J_C S_X10_tick rfl ?_
            refine J_CSx S_X10_tick rfl rfl (by simp) (hv7 _) rfl ?_
            refine J_iald S_X10_tick rfl (by assumption) (by omega) (j := 615 + 9 * k + 7) rfl (by omega) (by decide) ?_
            rw [gd]
            refine J_bin S_X10_tick rfl ?_
            refine J_iast S_X10_tick rfl (by assumption) (by omega) (j := 7) rfl (by omega) (by decide) ?_
            refine J_ald S_X10_tick rfl rfl ?_
            refine J_getR S_X10_tick rfl (o' := 314) (by assumption) (by omega) rfl ?_
            refine J_ild S_X10_tick rfl rfl ?_
            refine J_C S_X10_tick rfl ?_
            refine J_CSx S_X10_tick rfl rfl (by simp) (hv7 _) rfl ?_
            refine J_C S_X10_tick rfl ?_
            refine J_iast S_X10_tick rfl (by assumption) (by omega) (j := 615 + 9 * k + 7) rfl (by omega) (by decide) ?_
            refine J_ald S_X10_tick rfl rfl ?_
            refine J_getR S_X10_tick rfl (o' := 314) (by assumption) (by omega) rfl ?_
            refine J_ild S_X10_tick rfl rfl ?_
            refine J_C S_X10_tick rfl ?_
            refine J_CSx S_X10_tick rfl rfl (by simp) (hv5 _) rfl ?_
            refine J_C S_X10_tick rfl ?_
            refine J_iast S_X10_tick rfl (by assumption) (by omega) (j := 615 + 9 * k + 5) rfl (by omega) (by decide) ?_
            refine J_inc S_X10_tick rfl rfl rfl ?_
            refine J_goto S_X10_tick rfl ?_
            exact g
          · have g := nx _ 0 (by unfold tkS; rw [if_pos ⟨he, hz⟩, if_neg hd]; exact M1) (by unfold tkB; rw [ex_t he, hz, decide_eq_false hd]; rfl)
            rw [Int32.or_zero] at g
            refine J_ild S_X10_tick rfl rfl ?_
            refine J_ald S_X10_tick rfl rfl ?_
            refine J_getR S_X10_tick rfl (o' := 314) (by assumption) (by omega) rfl ?_
            refine J_C S_X10_tick rfl ?_
            refine J_iald S_X10_tick rfl (by assumption) (by omega) (j := 1) rfl (by omega) (by decide) ?_
            rw [g1]
            refine J_cmp S_X10_tick rfl (fun c38 => False.elim (nI_ge hkd (by omega) c38)) (fun c38 => ?_)
            refine J_ald S_X10_tick rfl rfl ?_
            refine J_ild S_X10_tick rfl rfl ?_
            refine J_CVx S_X10_tick rfl rfl (by assumption) (by omega) (by simp) (hiv) rfl ?_
            refine J_if S_X10_tick rfl (fun c46 => False.elim (absurd c46 (by decide))) (fun c46 => ?_)
            refine J_ald S_X10_tick rfl rfl ?_
            refine J_ild S_X10_tick rfl rfl ?_
            refine J_CVx S_X10_tick rfl rfl (by assumption) (by omega) (by simp) (hib) rfl ?_
            refine J_if S_X10_tick rfl (fun c54 => ?_) (fun c54 => False.elim (c54 rfl))
            refine J_ald S_X10_tick rfl rfl ?_
            refine J_getR S_X10_tick rfl (o' := 314) (by assumption) (by omega) rfl ?_
            refine J_ild S_X10_tick rfl rfl ?_
            refine J_C S_X10_tick rfl ?_
            refine J_CSx S_X10_tick rfl rfl (by simp) (hv7 _) rfl ?_
            refine J_dup2 S_X10_tick rfl ?_
            refine J_iald S_X10_tick rfl (by assumption) (by omega) (j := 615 + 9 * k + 7) rfl (by omega) (by decide) ?_
            refine J_ald S_X10_tick rfl rfl ?_
            refine J_getR S_X10_tick rfl (o' := 314) (by assumption) (by omega) rfl ?_
            refine J_C S_X10_tick rfl ?_
            refine J_iald S_X10_tick rfl (by assumption) (by omega) (j := 9) rfl (by omega) (by decide) ?_
            refine J_ald S_X10_tick rfl rfl ?_
            refine J_ild S_X10_tick rfl rfl ?_
            refine J_CVx S_X10_tick rfl rfl (by assumption) (by omega) (by simp) (har) rfl ?_
            refine J_bin S_X10_tick rfl ?_
            refine J_bin S_X10_tick rfl ?_
            rw [ed]
            refine J_iast S_X10_tick rfl (by assumption) (by omega) (j := 615 + 9 * k + 7) rfl (by omega) (by decide) ?_
            refine J_ald S_X10_tick rfl rfl ?_
            refine J_getR S_X10_tick rfl (o' := 314) (by assumption) (by omega) rfl ?_
            refine J_ild S_X10_tick rfl rfl ?_
            refine J_C S_X10_tick rfl ?_
            refine J_CSx S_X10_tick rfl rfl (by simp) (hv7 _) rfl ?_
            refine J_iald S_X10_tick rfl (by assumption) (by omega) (j := 615 + 9 * k + 7) rfl (by omega) (by decide) ?_
            rw [gd]
            refine J_ald S_X10_tick rfl rfl ?_
            refine J_getR S_X10_tick rfl (o' := 314) (by assumption) (by omega) rfl ?_
            refine J_C S_X10_tick rfl ?_
            refine J_iald S_X10_tick rfl (by assumption) (by omega) (j := 11) rfl (by omega) (by decide) ?_
            rw [g11]
            refine J_cmp S_X10_tick rfl (fun c105 => ?_) (fun c105 => False.elim (c105 (Int32.not_lt.mp hd)))
            refine J_inc S_X10_tick rfl rfl rfl ?_
            refine J_goto S_X10_tick rfl ?_
            exact g
        · rw [hz] at hib
          have g := nx I' 0 (by unfold tkS; rw [if_neg (fun g => by rw [hz] at g; exact absurd g.2 (by decide))]; exact hM) (by unfold tkB; rw [ex_t he, hz]; rfl)
          rw [Int32.or_zero] at g
          refine J_ild S_X10_tick rfl rfl ?_
          refine J_ald S_X10_tick rfl rfl ?_
          refine J_getR S_X10_tick rfl (o' := 314) (by assumption) (by omega) rfl ?_
          refine J_C S_X10_tick rfl ?_
          refine J_iald S_X10_tick rfl (by assumption) (by omega) (j := 1) rfl (by omega) (by decide) ?_
          rw [g1]
          refine J_cmp S_X10_tick rfl (fun c38 => False.elim (nI_ge hkd (by omega) c38)) (fun c38 => ?_)
          refine J_ald S_X10_tick rfl rfl ?_
          refine J_ild S_X10_tick rfl rfl ?_
          refine J_CVx S_X10_tick rfl rfl (by assumption) (by omega) (by simp) (hiv) rfl ?_
          refine J_if S_X10_tick rfl (fun c46 => False.elim (absurd c46 (by decide))) (fun c46 => ?_)
          refine J_ald S_X10_tick rfl rfl ?_
          refine J_ild S_X10_tick rfl rfl ?_
          refine J_CVx S_X10_tick rfl rfl (by assumption) (by omega) (by simp) (hib) rfl ?_
          refine J_if S_X10_tick rfl (fun c54 => False.elim (absurd c54 (by decide))) (fun c54 => ?_)
          refine J_goto S_X10_tick rfl ?_
          refine J_inc S_X10_tick rfl rfl rfl ?_
          refine J_goto S_X10_tick rfl ?_
          exact g
  refine J_ald S_X10_tick rfl rfl ?_
  refine J_getR S_X10_tick rfl (o' := 314) (by assumption) (by omega) rfl ?_
  refine J_C S_X10_tick rfl ?_
  refine J_iald S_X10_tick rfl (by assumption) (by omega) (j := 2) rfl (by omega) (by decide) ?_
  refine J_ald S_X10_tick rfl rfl ?_
  refine J_getR S_X10_tick rfl (o' := 314) (by assumption) (by omega) rfl ?_
  refine J_C S_X10_tick rfl ?_
  refine J_iald S_X10_tick rfl (by assumption) (by omega) (j := 12) rfl (by omega) (by decide) ?_
  rw [e2, e12]
  refine J_bin S_X10_tick rfl ?_
  rw [nI_add]
  refine J_C S_X10_tick rfl ?_
  refine J_cmp S_X10_tick rfl (fun c17 => ?_) (fun c17 => False.elim (c17 (nI_le (b := 9999) hc (by decide))))
  refine J_ald S_X10_tick rfl rfl ?_
  refine J_CV S_X10_tick rfl rfl (by assumption) (by omega) (by simp) (hno) ?_
  rintro _ _ ⟨I1, rfl, rfl, f1, f2, f3⟩
  refine J_C S_X10_tick rfl ?_
  refine J_ist S_X10_tick rfl rfl ?_
  refine J_C S_X10_tick rfl ?_
  refine J_ist S_X10_tick rfl rfl ?_
  exact key df 0 I1 (by omega) (mn_no f1 f2 f3)
end Mo
