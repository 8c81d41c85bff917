section Mp
variable {I : mj_I}
/-- only the reference's two notes of a payment change -/
def F9 (I I' : mj_I) : Prop := (∀ o, o ≠ 313 → I' o = I o) ∧ ∀ f, f ≠ 9 → f ≠ 10 → I' 313 f = I 313 f
theorem f9_rf : F9 I I := ⟨fun _ _ => rfl, fun _ _ _ => rfl⟩
theorem f9_up {I' : mj_I} (h : F9 I I') {k : Nat} {x : Int32} (hk : k = 9 ∨ k = 10) : F9 I (mj_up I' 313 k x) :=
  ⟨fun o ho => by rw [mj_up_ne ho]; exact h.1 o ho, fun f g1 g2 => by rw [mj_up_eq, up_n (by omega)]; exact h.2 f g1 g2⟩
theorem C_X10_spends (hI : IV (I 314)) {k c : Nat} (hk : k < 8) (he : vk (I 314) k 4 = 1) (hc : c ≤ 9999) : mj_R D_X10_spends [.inr (some 313), .inl (nI k), .inl (nI c)] (mj_w I) (mj_px (fun r I' => r = none ∧ F9 I I' ∧ I' 313 9 = nI (pyD (I 314) k c) ∧ I' 313 10 = nI (pyA (I 314) k c))) := by
  have m0 := s_313
  have m1 := s_314
  obtain ⟨-, -, -, -, -, -, -, -, -, w5, w6, w7, -⟩ := hI.wv hk he
  have hv7 := C_X10_v (I := I) (k := k) (f := 7)
  obtain ⟨p1, p2, p3⟩ := prc_N hI k
  have hpr := C_X10_priceOf (I := I) hk
  rw [p1] at hpr
  have har := C_X10_arrears hI (hI.ex hk he)
  rw [arrM_ex he] at har
  have hal : arr (I 314) k < 2 ^ 31 := by rw [← arrM_ex he]; exact arrM_lt
  have hor := rg_01 (hI.2.2.2.1 4 (by decide)).1
  have g7 : I 314 (615 + 9 * k + 7) = nI (tn (vk (I 314) k 7)) := w7.1
  have b7 := w7.2
  have g13 : I 314 13 = I 314 (9 + 4) := rfl
  refine mj_enter (by decide +kernel) (Nat.le_of_ble_eq_true rfl) ?_
  have hdiv : ∀ l, l ≤ 9999 → nI l / nI (prN (I 314) k) = nI (l / prN (I 314) k) := fun l hl => pk_div (by omega) (by omega) (by omega)
  have hp0 : ¬ nI (prN (I 314) k) = 0 := nI_ne0 (by omega) (by omega)
  have hq : ∀ l, l / prN (I 314) k ≤ l := fun l => Nat.div_le_self _ _
  rcases hor with ho | ho
  · have ho13 : I 314 13 = 0 := ho
    have eD : pyD (I 314) k c = min c (tn (vk (I 314) k 7)) := if_pos ho13
    have eS : pyS (I 314) k c = stl (I 314) k (c - min c (tn (vk (I 314) k 7))) := if_pos ho13
    generalize hd : tn (vk (I 314) k 7) = d at *
    generalize hpn : prN (I 314) k = p at *
    generalize han : arr (I 314) k = a at *
    have eA : ∀ s, s = pyS (I 314) k c → nI p * nI s = nI (pyA (I 314) k c) := fun s hs => by rw [pk_mul, hs, pyA, hpn, Nat.mul_comm]
    have eS2 : pyS (I 314) k c = min ((c - min c d) / p) a := by rw [eS, stl, hpn, han]
    have n1 : ∀ x y z : Int32, mj_up (mj_up I 313 9 x) 313 10 y 313 9 = x := fun x y z => by rw [mj_up_eq, up_n (by decide), mj_up_eq, up_s]
    -- behind 'left' after the debt
    have tail : ∀ (I1 : mj_I) (l : Nat) (q7 : Option mj_V), F9 I I1 → I1 313 9 = nI (pyD (I 314) k c) → l = c - min c d → mj_J D_X10_spends (mj_px (fun r I' => r = none ∧ F9 I I' ∧ I' 313 9 = nI (pyD (I 314) k c) ∧ I' 313 10 = nI (pyA (I 314) k c))) 69 [some (.inr (some 313)), some (.inl (nI k)), some (.inl (nI c)), some (.inl (nI d)), some (.inl (nI p)), some (.inl (nI a)), some (.inl (nI l)), q7] [] (mj_w I1) (0, 0) := by
      intro I1 l q7 hF h9 hl
      have hl2 : l ≤ 9999 := by omega
      have hql := hq l
      have e314 : I1 314 = I 314 := hF.1 314 (by decide)
      have fin : ∀ (s : Nat) (x : Int32), s = pyS (I 314) k c → x = nI p * nI s → mj_px (fun r I' => r = none ∧ F9 I I' ∧ I' 313 9 = nI (pyD (I 314) k c) ∧ I' 313 10 = nI (pyA (I 314) k c)) none (mj_w (mj_up I1 313 10 x)) := by
        intro s x hs hx
        exact ⟨_, rfl, rfl, f9_up hF (by decide), by rw [mj_up_eq, up_n (by decide)]; exact h9, by rw [mj_up_eq, up_s, hx]; exact eA s hs⟩
      have g13' : ∀ x, mj_up I1 313 10 x 314 13 = 0 := fun x => by rw [mj_up_ne (by decide), e314]; exact ho13
      by_cases hlt : l / p < a
      · refine J_ild S_X10_spends rfl rfl ?_
        refine J_ild S_X10_spends rfl rfl ?_
        refine J_div S_X10_spends rfl hp0 ?_
        rw [hdiv l hl2]
        refine J_ild S_X10_spends rfl rfl ?_
        refine J_cmp S_X10_spends rfl (fun c76 => False.elim (nI_ge hlt hal c76)) (fun c76 => ?_)
        refine J_ild S_X10_spends rfl rfl ?_
        refine J_ild S_X10_spends rfl rfl ?_
        refine J_div S_X10_spends rfl hp0 ?_
        rw [hdiv l hl2]
        refine J_goto S_X10_spends rfl ?_
        refine J_ist S_X10_spends rfl rfl ?_
        refine J_ald S_X10_spends rfl rfl ?_
        refine J_ild S_X10_spends rfl rfl ?_
        refine J_ild S_X10_spends rfl rfl ?_
        refine J_bin S_X10_spends rfl ?_
        refine J_putI S_X10_spends rfl (by assumption) (by omega) ?_
        refine J_ild S_X10_spends rfl rfl ?_
        refine J_ald S_X10_spends rfl rfl ?_
        refine J_getI S_X10_spends rfl (by assumption) (by omega) ?_
        refine J_bin S_X10_spends rfl ?_
        refine J_ist S_X10_spends rfl rfl ?_
        refine J_ald S_X10_spends rfl rfl ?_
        refine J_getR S_X10_spends rfl (o' := 314) (by assumption) (by omega) rfl ?_
        refine J_C S_X10_spends rfl ?_
        refine J_iald S_X10_spends rfl (by assumption) (by omega) (j := 13) rfl (by omega) (by decide) ?_
        rw [g13']
        refine J_C S_X10_spends rfl ?_
        refine J_cmp S_X10_spends rfl (fun c117 => ?_) (fun c117 => False.elim (absurd c117 (by decide)))
        refine J_retV S_X10_spends rfl ?_
        exact fin (l / p) _ (by rw [eS2, ← hl]; omega) rfl
      · refine J_ild S_X10_spends rfl rfl ?_
        refine J_ild S_X10_spends rfl rfl ?_
        refine J_div S_X10_spends rfl hp0 ?_
        rw [hdiv l hl2]
        refine J_ild S_X10_spends rfl rfl ?_
        refine J_cmp S_X10_spends rfl (fun c76 => ?_) (fun c76 => False.elim (c76 (nI_le (by omega) (by omega))))
        refine J_ild S_X10_spends rfl rfl ?_
        refine J_ist S_X10_spends rfl rfl ?_
        refine J_ald S_X10_spends rfl rfl ?_
        refine J_ild S_X10_spends rfl rfl ?_
        refine J_ild S_X10_spends rfl rfl ?_
        refine J_bin S_X10_spends rfl ?_
        refine J_putI S_X10_spends rfl (by assumption) (by omega) ?_
        refine J_ild S_X10_spends rfl rfl ?_
        refine J_ald S_X10_spends rfl rfl ?_
        refine J_getI S_X10_spends rfl (by assumption) (by omega) ?_
        refine J_bin S_X10_spends rfl ?_
        refine J_ist S_X10_spends rfl rfl ?_
        refine J_ald S_X10_spends rfl rfl ?_
        refine J_getR S_X10_spends rfl (o' := 314) (by assumption) (by omega) rfl ?_
        refine J_C S_X10_spends rfl ?_
        refine J_iald S_X10_spends rfl (by assumption) (by omega) (j := 13) rfl (by omega) (by decide) ?_
        rw [g13']
        refine J_C S_X10_spends rfl ?_
        refine J_cmp S_X10_spends rfl (fun c117 => ?_) (fun c117 => False.elim (absurd c117 (by decide)))
        refine J_retV S_X10_spends rfl ?_
        exact fin a _ (by rw [eS2, ← hl]; omega) rfl
    by_cases hcd : c < d
    · refine J_ald S_X10_spends rfl rfl ?_
      refine J_getR S_X10_spends rfl (o' := 314) (by assumption) (by omega) rfl ?_
      refine J_ild S_X10_spends rfl rfl ?_
      refine J_C S_X10_spends rfl ?_
      refine J_CSx S_X10_spends rfl rfl (by simp) (hv7) rfl ?_
      refine J_iald S_X10_spends rfl (by assumption) (by omega) rfl (by omega) (by decide) ?_
      rw [g7]
      refine J_ist S_X10_spends rfl rfl ?_
      refine J_ald S_X10_spends rfl rfl ?_
      refine J_ild S_X10_spends rfl rfl ?_
      refine J_CVx S_X10_spends rfl rfl (by assumption) (by omega) (by simp) (hpr) rfl ?_
      refine J_ist S_X10_spends rfl rfl ?_
      refine J_ald S_X10_spends rfl rfl ?_
      refine J_ild S_X10_spends rfl rfl ?_
      refine J_CVx S_X10_spends rfl rfl (by assumption) (by omega) (by simp) (har) rfl ?_
      refine J_ist S_X10_spends rfl rfl ?_
      refine J_ild S_X10_spends rfl rfl ?_
      refine J_ist S_X10_spends rfl rfl ?_
      refine J_ald S_X10_spends rfl rfl ?_
      refine J_C S_X10_spends rfl ?_
      refine J_putI S_X10_spends rfl (by assumption) (by omega) ?_
      refine J_ald S_X10_spends rfl rfl ?_
      refine J_getR S_X10_spends rfl (o' := 314) (by assumption) (by omega) rfl ?_
      refine J_C S_X10_spends rfl ?_
      refine J_iald S_X10_spends rfl (by assumption) (by omega) (j := 13) rfl (by omega) (by decide) ?_
      rw [mj_up_ne (show (314 : Nat) ≠ 313 by decide), ho13]
      refine J_if S_X10_spends rfl (fun c41 => False.elim (c41 rfl)) (fun c41 => ?_)
      refine J_ald S_X10_spends rfl rfl ?_
      refine J_ild S_X10_spends rfl rfl ?_
      refine J_ild S_X10_spends rfl rfl ?_
      refine J_cmp S_X10_spends rfl (fun c48 => False.elim (nI_ge hcd (by omega) c48)) (fun c48 => ?_)
      refine J_ild S_X10_spends rfl rfl ?_
      refine J_goto S_X10_spends rfl ?_
      refine J_putI S_X10_spends rfl (by assumption) (by omega) ?_
      refine J_ild S_X10_spends rfl rfl ?_
      refine J_ald S_X10_spends rfl rfl ?_
      refine J_getI S_X10_spends rfl (by assumption) (by omega) ?_
      refine J_bin S_X10_spends rfl ?_
      refine J_ist S_X10_spends rfl rfl ?_
      rw [mj_up_eq, up_s, pk_sub (Nat.le_refl c)]
      exact tail _ (c - c) none (f9_up (f9_up f9_rf (by decide)) (by decide)) (by rw [mj_up_eq, up_s, eD, Nat.min_eq_left (by omega)]) (by rw [Nat.min_eq_left (by omega)])
    · refine J_ald S_X10_spends rfl rfl ?_
      refine J_getR S_X10_spends rfl (o' := 314) (by assumption) (by omega) rfl ?_
      refine J_ild S_X10_spends rfl rfl ?_
      refine J_C S_X10_spends rfl ?_
      refine J_CSx S_X10_spends rfl rfl (by simp) (hv7) rfl ?_
      refine J_iald S_X10_spends rfl (by assumption) (by omega) rfl (by omega) (by decide) ?_
      rw [g7]
      refine J_ist S_X10_spends rfl rfl ?_
      refine J_ald S_X10_spends rfl rfl ?_
      refine J_ild S_X10_spends rfl rfl ?_
      refine J_CVx S_X10_spends rfl rfl (by assumption) (by omega) (by simp) (hpr) rfl ?_
      refine J_ist S_X10_spends rfl rfl ?_
      refine J_ald S_X10_spends rfl rfl ?_
      refine J_ild S_X10_spends rfl rfl ?_
      refine J_CVx S_X10_spends rfl rfl (by assumption) (by omega) (by simp) (har) rfl ?_
      refine J_ist S_X10_spends rfl rfl ?_
      refine J_ild S_X10_spends rfl rfl ?_
      refine J_ist S_X10_spends rfl rfl ?_
      refine J_ald S_X10_spends rfl rfl ?_
      refine J_C S_X10_spends rfl ?_
      refine J_putI S_X10_spends rfl (by assumption) (by omega) ?_
      refine J_ald S_X10_spends rfl rfl ?_
      refine J_getR S_X10_spends rfl (o' := 314) (by assumption) (by omega) rfl ?_
      refine J_C S_X10_spends rfl ?_
      refine J_iald S_X10_spends rfl (by assumption) (by omega) (j := 13) rfl (by omega) (by decide) ?_
      rw [mj_up_ne (show (314 : Nat) ≠ 313 by decide), ho13]
      refine J_if S_X10_spends rfl (fun c41 => False.elim (c41 rfl)) (fun c41 => ?_)
      refine J_ald S_X10_spends rfl rfl ?_
      refine J_ild S_X10_spends rfl rfl ?_
      refine J_ild S_X10_spends rfl rfl ?_
      refine J_cmp S_X10_spends rfl (fun c48 => ?_) (fun c48 => False.elim (c48 (nI_le (by omega) (by omega))))
      refine J_ild S_X10_spends rfl rfl ?_
      refine J_putI S_X10_spends rfl (by assumption) (by omega) ?_
      refine J_ild S_X10_spends rfl rfl ?_
      refine J_ald S_X10_spends rfl rfl ?_
      refine J_getI S_X10_spends rfl (by assumption) (by omega) ?_
      refine J_bin S_X10_spends rfl ?_
      refine J_ist S_X10_spends rfl rfl ?_
      rw [mj_up_eq, up_s, pk_sub (show d ≤ c by omega)]
      exact tail _ (c - d) none (f9_up (f9_up f9_rf (by decide)) (by decide)) (by rw [mj_up_eq, up_s, eD, Nat.min_eq_right (by omega)]) (by rw [Nat.min_eq_right (by omega)])
  · have ho13 : I 314 13 = 1 := ho
    have hn0 : ¬ I 314 13 = 0 := by rw [ho13]; decide
    have eS : pyS (I 314) k c = stl (I 314) k c := if_neg hn0
    have eD : pyD (I 314) k c = min (c - pyA (I 314) k c) (tn (vk (I 314) k 7)) := by unfold pyA pyS; rw [if_neg hn0]; exact if_neg hn0
    have hAc := py_le (I 314) k c
    generalize hd : tn (vk (I 314) k 7) = d at *
    generalize hpn : prN (I 314) k = p at *
    generalize han : arr (I 314) k = a at *
    have eA : ∀ s, s = pyS (I 314) k c → nI p * nI s = nI (pyA (I 314) k c) := fun s hs => by rw [pk_mul, hs, pyA, hpn, Nat.mul_comm]
    have eS2 : pyS (I 314) k c = min (c / p) a := by rw [eS, stl, hpn, han]
    have hql := hq c
    have fin : ∀ (I1 : mj_I) (s : Nat) (q7 : Option mj_V), F9 I I1 → s = pyS (I 314) k c → mj_J D_X10_spends (mj_px (fun r I' => r = none ∧ F9 I I' ∧ I' 313 9 = nI (pyD (I 314) k c) ∧ I' 313 10 = nI (pyA (I 314) k c))) 91 [some (.inr (some 313)), some (.inl (nI k)), some (.inl (nI c)), some (.inl (nI d)), some (.inl (nI p)), some (.inl (nI a)), some (.inl (nI c)), some (.inl (nI s))] [] (mj_w I1) (0, 0) := by
      intro I1 s q7 hF hs
      have e314 : I1 314 = I 314 := hF.1 314 (by decide)
      have g13' : ∀ x, mj_up I1 313 10 x 314 13 = 1 := fun x => by rw [mj_up_ne (by decide), e314]; exact ho13
      have e10 : mj_up I1 313 10 (nI p * nI s) 313 10 = nI (pyA (I 314) k c) := by rw [mj_up_eq, up_s]; exact eA s hs
      by_cases hlt : c - pyA (I 314) k c < d
      · refine J_ald S_X10_spends rfl rfl ?_
        refine J_ild S_X10_spends rfl rfl ?_
        refine J_ild S_X10_spends rfl rfl ?_
        refine J_bin S_X10_spends rfl ?_
        refine J_putI S_X10_spends rfl (by assumption) (by omega) ?_
        refine J_ild S_X10_spends rfl rfl ?_
        refine J_ald S_X10_spends rfl rfl ?_
        refine J_getI S_X10_spends rfl (by assumption) (by omega) ?_
        refine J_bin S_X10_spends rfl ?_
        rw [e10, pk_sub (show pyA (I 314) k c ≤ c by omega)]
        refine J_ist S_X10_spends rfl rfl ?_
        refine J_ald S_X10_spends rfl rfl ?_
        refine J_getR S_X10_spends rfl (o' := 314) (by assumption) (by omega) rfl ?_
        refine J_C S_X10_spends rfl ?_
        refine J_iald S_X10_spends rfl (by assumption) (by omega) (j := 13) rfl (by omega) (by decide) ?_
        rw [g13']
        refine J_C S_X10_spends rfl ?_
        refine J_cmp S_X10_spends rfl (fun c117 => False.elim (c117 rfl)) (fun c117 => ?_)
        refine J_ald S_X10_spends rfl rfl ?_
        refine J_ild S_X10_spends rfl rfl ?_
        refine J_ild S_X10_spends rfl rfl ?_
        refine J_cmp S_X10_spends rfl (fun c124 => False.elim (nI_ge hlt (by omega) c124)) (fun c124 => ?_)
        refine J_ild S_X10_spends rfl rfl ?_
        refine J_goto S_X10_spends rfl ?_
        refine J_putI S_X10_spends rfl (by assumption) (by omega) ?_
        refine J_retV S_X10_spends rfl ?_
        exact ⟨_, rfl, rfl, f9_up (f9_up hF (by decide)) (by decide), by rw [mj_up_eq, up_s, eD, Nat.min_eq_left (by omega)], by rw [mj_up_eq, up_n (by decide)]; exact e10⟩
      · refine J_ald S_X10_spends rfl rfl ?_
        refine J_ild S_X10_spends rfl rfl ?_
        refine J_ild S_X10_spends rfl rfl ?_
        refine J_bin S_X10_spends rfl ?_
        refine J_putI S_X10_spends rfl (by assumption) (by omega) ?_
        refine J_ild S_X10_spends rfl rfl ?_
        refine J_ald S_X10_spends rfl rfl ?_
        refine J_getI S_X10_spends rfl (by assumption) (by omega) ?_
        refine J_bin S_X10_spends rfl ?_
        rw [e10, pk_sub (show pyA (I 314) k c ≤ c by omega)]
        refine J_ist S_X10_spends rfl rfl ?_
        refine J_ald S_X10_spends rfl rfl ?_
        refine J_getR S_X10_spends rfl (o' := 314) (by assumption) (by omega) rfl ?_
        refine J_C S_X10_spends rfl ?_
        refine J_iald S_X10_spends rfl (by assumption) (by omega) (j := 13) rfl (by omega) (by decide) ?_
        rw [g13']
        refine J_C S_X10_spends rfl ?_
        refine J_cmp S_X10_spends rfl (fun c117 => False.elim (c117 rfl)) (fun c117 => ?_)
        refine J_ald S_X10_spends rfl rfl ?_
        refine J_ild S_X10_spends rfl rfl ?_
        refine J_ild S_X10_spends rfl rfl ?_
        refine J_cmp S_X10_spends rfl (fun c124 => ?_) (fun c124 => False.elim (c124 (nI_le (by omega) (by omega))))
        refine J_ild S_X10_spends rfl rfl ?_
        refine J_putI S_X10_spends rfl (by assumption) (by omega) ?_
        refine J_retV S_X10_spends rfl ?_
        exact ⟨_, rfl, rfl, f9_up (f9_up hF (by decide)) (by decide), by rw [mj_up_eq, up_s, eD, Nat.min_eq_right (by omega)], by rw [mj_up_eq, up_n (by decide)]; exact e10⟩
    by_cases hlt : c / p < a
    · refine J_ald S_X10_spends rfl rfl ?_
      refine J_getR S_X10_spends rfl (o' := 314) (by assumption) (by omega) rfl ?_
      refine J_ild S_X10_spends rfl rfl ?_
      refine J_C S_X10_spends rfl ?_
      refine J_CSx S_X10_spends rfl rfl (by simp) (hv7) rfl ?_
      refine J_iald S_X10_spends rfl (by assumption) (by omega) rfl (by omega) (by decide) ?_
      rw [g7]
      refine J_ist S_X10_spends rfl rfl ?_
      refine J_ald S_X10_spends rfl rfl ?_
      refine J_ild S_X10_spends rfl rfl ?_
      refine J_CVx S_X10_spends rfl rfl (by assumption) (by omega) (by simp) (hpr) rfl ?_
      refine J_ist S_X10_spends rfl rfl ?_
      refine J_ald S_X10_spends rfl rfl ?_
      refine J_ild S_X10_spends rfl rfl ?_
      refine J_CVx S_X10_spends rfl rfl (by assumption) (by omega) (by simp) (har) rfl ?_
      refine J_ist S_X10_spends rfl rfl ?_
      refine J_ild S_X10_spends rfl rfl ?_
      refine J_ist S_X10_spends rfl rfl ?_
      refine J_ald S_X10_spends rfl rfl ?_
      refine J_C S_X10_spends rfl ?_
      refine J_putI S_X10_spends rfl (by assumption) (by omega) ?_
      refine J_ald S_X10_spends rfl rfl ?_
      refine J_getR S_X10_spends rfl (o' := 314) (by assumption) (by omega) rfl ?_
      refine J_C S_X10_spends rfl ?_
      refine J_iald S_X10_spends rfl (by assumption) (by omega) (j := 13) rfl (by omega) (by decide) ?_
      rw [mj_up_ne (show (314 : Nat) ≠ 313 by decide), ho13]
      refine J_if S_X10_spends rfl (fun c41 => ?_) (fun c41 => False.elim (absurd c41 (by decide)))
      refine J_ild S_X10_spends rfl rfl ?_
      refine J_ild S_X10_spends rfl rfl ?_
      refine J_div S_X10_spends rfl hp0 ?_
      rw [hdiv c hc]
      refine J_ild S_X10_spends rfl rfl ?_
      refine J_cmp S_X10_spends rfl (fun c76 => False.elim (nI_ge hlt hal c76)) (fun c76 => ?_)
      refine J_ild S_X10_spends rfl rfl ?_
      refine J_ild S_X10_spends rfl rfl ?_
      refine J_div S_X10_spends rfl hp0 ?_
      rw [hdiv c hc]
      refine J_goto S_X10_spends rfl ?_
      refine J_ist S_X10_spends rfl rfl ?_
      exact fin _ _ none (f9_up f9_rf (by decide)) (by rw [eS2]; omega)
    · refine J_ald S_X10_spends rfl rfl ?_
      refine J_getR S_X10_spends rfl (o' := 314) (by assumption) (by omega) rfl ?_
      refine J_ild S_X10_spends rfl rfl ?_
      refine J_C S_X10_spends rfl ?_
      refine J_CSx S_X10_spends rfl rfl (by simp) (hv7) rfl ?_
      refine J_iald S_X10_spends rfl (by assumption) (by omega) rfl (by omega) (by decide) ?_
      rw [g7]
      refine J_ist S_X10_spends rfl rfl ?_
      refine J_ald S_X10_spends rfl rfl ?_
      refine J_ild S_X10_spends rfl rfl ?_
      refine J_CVx S_X10_spends rfl rfl (by assumption) (by omega) (by simp) (hpr) rfl ?_
      refine J_ist S_X10_spends rfl rfl ?_
      refine J_ald S_X10_spends rfl rfl ?_
      refine J_ild S_X10_spends rfl rfl ?_
      refine J_CVx S_X10_spends rfl rfl (by assumption) (by omega) (by simp) (har) rfl ?_
      refine J_ist S_X10_spends rfl rfl ?_
      refine J_ild S_X10_spends rfl rfl ?_
      refine J_ist S_X10_spends rfl rfl ?_
      refine J_ald S_X10_spends rfl rfl ?_
      refine J_C S_X10_spends rfl ?_
      refine J_putI S_X10_spends rfl (by assumption) (by omega) ?_
      refine J_ald S_X10_spends rfl rfl ?_
      refine J_getR S_X10_spends rfl (o' := 314) (by assumption) (by omega) rfl ?_
      refine J_C S_X10_spends rfl ?_
      refine J_iald S_X10_spends rfl (by assumption) (by omega) (j := 13) rfl (by omega) (by decide) ?_
      rw [mj_up_ne (show (314 : Nat) ≠ 313 by decide), ho13]
      refine J_if S_X10_spends rfl (fun c41 => ?_) (fun c41 => False.elim (absurd c41 (by decide)))
      refine J_ild S_X10_spends rfl rfl ?_
      refine J_ild S_X10_spends rfl rfl ?_
      refine J_div S_X10_spends rfl hp0 ?_
      rw [hdiv c hc]
      refine J_ild S_X10_spends rfl rfl ?_
      refine J_cmp S_X10_spends rfl (fun c76 => ?_) (fun c76 => False.elim (c76 (nI_le (by omega) (by omega))))
      refine J_ild S_X10_spends rfl rfl ?_
      refine J_ist S_X10_spends rfl rfl ?_
      exact fin _ _ none (f9_up f9_rf (by decide)) (by rw [eS2]; omega)
theorem C_X10_pays (hI : IV (I 314)) {k c : Nat} (hk : k < 8) (he : vk (I 314) k 4 = 1) (hc : c ≤ 9999) : mj_R D_X10_pays [.inr (some 313), .inl (nI k), .inl (nI c)] (mj_w I)
    (mj_px (fun r I' => r = some (.inl (nI (pyD (I 314) k (min c (tn (I 314 2))) + pyA (I 314) k (min c (tn (I 314 2)))))) ∧ I' 314 = payV (I 314) k (min c (tn (I 314 2))) ∧ (∀ o, o ≠ 313 → o ≠ 314 → I' o = I o) ∧ ∀ f, f ≠ 9 → f ≠ 10 → I' 313 f = I 313 f)) := by
  have m0 := s_313
  have m1 := s_314
  have ht := hI.2.2.1
  have ht2 := ht.2
  obtain ⟨p1, p2, p3⟩ := prc_N hI k
  generalize hm : min c (tn (I 314 2)) = m
  have hmm : m ≤ 9999 := by omega
  obtain ⟨t, h2t, htl⟩ : ∃ t, I 314 2 = nI t ∧ t ≤ 9999 := ⟨_, ht.1, ht2⟩
  have htt : tn (I 314 2) = t := by rw [h2t, tn_nI (by omega)]
  rw [htt] at hm
  have hsp := C_X10_spends hI hk he hmm
  have hle := py_le (I 314) k m
  have hpS : pyA (I 314) k m / prN (I 314) k = pyS (I 314) k m := by rw [pyA]; exact Nat.mul_div_cancel _ (by omega)
  have hSl : pyS (I 314) k m < 2 ^ 31 := by
    have : pyS (I 314) k m * 1 ≤ pyS (I 314) k m * prN (I 314) k := Nat.mul_le_mul_left _ p2
    have : pyS (I 314) k m * prN (I 314) k ≤ m := by unfold pyA at hle; omega
    omega
  refine mj_enter (by decide +kernel) (Nat.le_of_ble_eq_true rfl) ?_
  have tail : ∀ (I1 : mj_I) (q3 : Option mj_V), F9 I I1 → I1 313 9 = nI (pyD (I 314) k m) → I1 313 10 = nI (pyA (I 314) k m) → mj_J D_X10_pays (mj_px (fun r I' => r = some (.inl (nI (pyD (I 314) k m + pyA (I 314) k m))) ∧ I' 314 = payV (I 314) k m ∧ (∀ o, o ≠ 313 → o ≠ 314 → I' o = I o) ∧ ∀ f, f ≠ 9 → f ≠ 10 → I' 313 f = I 313 f)) 25 [some (.inr (some 313)), some (.inl (nI k)), some (.inl (nI c)), q3] [] (mj_w I1) (0, 0) := by
    intro I1 q3 hF h9 h10
    have e314 : I1 314 = I 314 := hF.1 314 (by decide)
    have hv6 := C_X10_v (I := I1) (k := k) (f := 6)
    have hpr := C_X10_priceOf (I := I1) hk
    rw [e314, p1] at hpr
    have har := C_X10_arrear (I := I1) (by rw [e314]; exact hI) hk (by rw [e314]; exact he) hSl
    rw [e314] at har
    have hdv : nI (pyA (I 314) k m) / nI (prN (I 314) k) = nI (pyS (I 314) k m) := by rw [pk_div (by omega) (by omega) (by omega), hpS]
    have hp0 : ¬ nI (prN (I 314) k) = 0 := nI_ne0 (by omega) (by omega)
    have g313 : ∀ (J : mj_I) (q : Nat) (x : Int32) (f : Nat), mj_up J 314 q x 313 f = J 313 f := fun J q x f => by rw [mj_up_ne (by decide)]
    have gup : ∀ (J : mj_I) (q : Nat) (x : Int32), mj_up J 314 q x 314 = upd (J 314) q x := fun J q x => mj_up_eq
    refine J_ald S_X10_pays rfl rfl ?_
    refine J_getI S_X10_pays rfl (by assumption) (by omega) ?_
    refine J_ald S_X10_pays rfl rfl ?_
    refine J_getI S_X10_pays rfl (by assumption) (by omega) ?_
    refine J_bin S_X10_pays rfl ?_
    refine J_ist S_X10_pays rfl rfl ?_
    refine J_ald S_X10_pays rfl rfl ?_
    refine J_getR S_X10_pays rfl (o' := 314) (by assumption) (by omega) rfl ?_
    refine J_ild S_X10_pays rfl rfl ?_
    refine J_C S_X10_pays rfl ?_
    refine J_CSx S_X10_pays rfl rfl (by simp) (hv6) rfl ?_
    refine J_ald S_X10_pays rfl rfl ?_
    refine J_ild S_X10_pays rfl rfl ?_
    refine J_ald S_X10_pays rfl rfl ?_
    refine J_getI S_X10_pays rfl (by assumption) (by omega) ?_
    refine J_ald S_X10_pays rfl rfl ?_
    refine J_ild S_X10_pays rfl rfl ?_
    refine J_CVx S_X10_pays rfl rfl (by assumption) (by omega) (by simp) (hpr) rfl ?_
    rw [h10]
    refine J_div S_X10_pays rfl hp0 ?_
    rw [hdv]
    refine J_CVx S_X10_pays rfl rfl (by assumption) (by omega) (by simp) (har) rfl ?_
    refine J_iast S_X10_pays rfl (by assumption) (by omega) rfl (by omega) (by decide) ?_
    refine J_ald S_X10_pays rfl rfl ?_
    refine J_getR S_X10_pays rfl (o' := 314) (by assumption) (by omega) rfl ?_
    refine J_ild S_X10_pays rfl rfl ?_
    refine J_C S_X10_pays rfl ?_
    refine J_CSx S_X10_pays rfl rfl (by simp) (C_X10_v (k := k) (f := 7)) rfl ?_
    refine J_dup2 S_X10_pays rfl ?_
    refine J_iald S_X10_pays rfl (by assumption) (by omega) rfl (by omega) (by decide) ?_
    refine J_ald S_X10_pays rfl rfl ?_
    refine J_getI S_X10_pays rfl (by assumption) (by omega) ?_
    refine J_bin S_X10_pays rfl ?_
    refine J_iast S_X10_pays rfl (by assumption) (by omega) rfl (by omega) (by decide) ?_
    refine J_ald S_X10_pays rfl rfl ?_
    refine J_getR S_X10_pays rfl (o' := 314) (by assumption) (by omega) rfl ?_
    refine J_ild S_X10_pays rfl rfl ?_
    refine J_C S_X10_pays rfl ?_
    refine J_CSx S_X10_pays rfl rfl (by simp) (C_X10_v (k := k) (f := 8)) rfl ?_
    refine J_dup2 S_X10_pays rfl ?_
    refine J_iald S_X10_pays rfl (by assumption) (by omega) rfl (by omega) (by decide) ?_
    refine J_ild S_X10_pays rfl rfl ?_
    refine J_bin S_X10_pays rfl ?_
    refine J_iast S_X10_pays rfl (by assumption) (by omega) rfl (by omega) (by decide) ?_
    refine J_ald S_X10_pays rfl rfl ?_
    refine J_getR S_X10_pays rfl (o' := 314) (by assumption) (by omega) rfl ?_
    refine J_C S_X10_pays rfl ?_
    refine J_dup2 S_X10_pays rfl ?_
    refine J_iald S_X10_pays rfl (by assumption) (by omega) (j := 2) rfl (by omega) (by decide) ?_
    refine J_ild S_X10_pays rfl rfl ?_
    refine J_bin S_X10_pays rfl ?_
    refine J_iast S_X10_pays rfl (by assumption) (by omega) (j := 2) rfl (by omega) (by decide) ?_
    refine J_ald S_X10_pays rfl rfl ?_
    refine J_getR S_X10_pays rfl (o' := 314) (by assumption) (by omega) rfl ?_
    refine J_C S_X10_pays rfl ?_
    refine J_dup2 S_X10_pays rfl ?_
    refine J_iald S_X10_pays rfl (by assumption) (by omega) (j := 4) rfl (by omega) (by decide) ?_
    refine J_ald S_X10_pays rfl rfl ?_
    refine J_getI S_X10_pays rfl (by assumption) (by omega) ?_
    refine J_bin S_X10_pays rfl ?_
    refine J_iast S_X10_pays rfl (by assumption) (by omega) (j := 4) rfl (by omega) (by decide) ?_
    refine J_ald S_X10_pays rfl rfl ?_
    refine J_getR S_X10_pays rfl (o' := 314) (by assumption) (by omega) rfl ?_
    refine J_C S_X10_pays rfl ?_
    refine J_dup2 S_X10_pays rfl ?_
    refine J_iald S_X10_pays rfl (by assumption) (by omega) (j := 5) rfl (by omega) (by decide) ?_
    refine J_ald S_X10_pays rfl rfl ?_
    refine J_getI S_X10_pays rfl (by assumption) (by omega) ?_
    refine J_bin S_X10_pays rfl ?_
    refine J_iast S_X10_pays rfl (by assumption) (by omega) (j := 5) rfl (by omega) (by decide) ?_
    refine J_ild S_X10_pays rfl rfl ?_
    refine J_retI S_X10_pays rfl ?_
    refine ⟨_, rfl, ?_, ?_, fun o g1 g2 => ?_, fun f g1 g2 => ?_⟩
    · simp only [h9, h10, nI_add]
    · simp only [gup, g313, e314, h9, h10, nI_add]; simp only [up_n (show 615 + 9 * k + 7 ≠ 615 + 9 * k + 6 by omega), up_n (show 615 + 9 * k + 8 ≠ 615 + 9 * k + 6 by omega), up_n (show 615 + 9 * k + 8 ≠ 615 + 9 * k + 7 by omega), up_n (show 2 ≠ 615 + 9 * k + 6 by omega), up_n (show 2 ≠ 615 + 9 * k + 7 by omega), up_n (show 2 ≠ 615 + 9 * k + 8 by omega), up_n (show 4 ≠ 615 + 9 * k + 6 by omega), up_n (show 4 ≠ 615 + 9 * k + 7 by omega), up_n (show 4 ≠ 615 + 9 * k + 8 by omega), up_n (show 5 ≠ 615 + 9 * k + 6 by omega), up_n (show 5 ≠ 615 + 9 * k + 7 by omega), up_n (show 5 ≠ 615 + 9 * k + 8 by omega), up_n (show (4 : Nat) ≠ 2 by decide), up_n (show (5 : Nat) ≠ 2 by decide), up_n (show (5 : Nat) ≠ 4 by decide)]; rfl
    · simp only [mj_up_ne g2]; exact hF.1 o g1
    · simp only [g313]; exact hF.2 f g1 g2
  by_cases hct : c < t
  · rw [show m = c by omega] at hsp ⊢
    rw [show m = c by omega] at tail
    refine J_ald S_X10_pays rfl rfl ?_
    refine J_ild S_X10_pays rfl rfl ?_
    refine J_ild S_X10_pays rfl rfl ?_
    refine J_ald S_X10_pays rfl rfl ?_
    refine J_getR S_X10_pays rfl (o' := 314) (by assumption) (by omega) rfl ?_
    refine J_C S_X10_pays rfl ?_
    refine J_iald S_X10_pays rfl (by assumption) (by omega) (j := 2) rfl (by omega) (by decide) ?_
    rw [h2t]
    refine J_cmp S_X10_pays rfl (fun c9 => False.elim (nI_ge hct (by omega) c9)) (fun c9 => ?_)
    refine J_ild S_X10_pays rfl rfl ?_
    refine J_goto S_X10_pays rfl ?_
    refine J_CV S_X10_pays rfl rfl (by assumption) (by omega) (by simp) (hsp) ?_
    rintro _ _ ⟨I1, rfl, rfl, hF, h9, h10⟩
    exact tail I1 none hF h9 h10
  · rw [show m = t by omega] at hsp ⊢
    rw [show m = t by omega] at tail
    refine J_ald S_X10_pays rfl rfl ?_
    refine J_ild S_X10_pays rfl rfl ?_
    refine J_ild S_X10_pays rfl rfl ?_
    refine J_ald S_X10_pays rfl rfl ?_
    refine J_getR S_X10_pays rfl (o' := 314) (by assumption) (by omega) rfl ?_
    refine J_C S_X10_pays rfl ?_
    refine J_iald S_X10_pays rfl (by assumption) (by omega) (j := 2) rfl (by omega) (by decide) ?_
    rw [h2t]
    refine J_cmp S_X10_pays rfl (fun c9 => ?_) (fun c9 => False.elim (c9 (nI_le (by omega) (by omega))))
    refine J_ald S_X10_pays rfl rfl ?_
    refine J_getR S_X10_pays rfl (o' := 314) (by assumption) (by omega) rfl ?_
    refine J_C S_X10_pays rfl ?_
    refine J_iald S_X10_pays rfl (by assumption) (by omega) (j := 2) rfl (by omega) (by decide) ?_
    rw [h2t]
    refine J_CV S_X10_pays rfl rfl (by assumption) (by omega) (by simp) (hsp) ?_
    rintro _ _ ⟨I1, rfl, rfl, hF, h9, h10⟩
    exact tail I1 none hF h9 h10
end Mp
