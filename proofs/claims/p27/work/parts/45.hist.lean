theorem mj_S4 : mj_isS 4 := by unfold mj_isS mj_isB; decide +kernel
theorem mj_Sh {a : Nat} (h : a < 5) : mj_isS (53 + 1 + 48 * a) := by
  rcases (show a = 0 ∨ a = 1 ∨ a = 2 ∨ a = 3 ∨ a = 4 by omega) with rfl | rfl | rfl | rfl | rfl <;> (unfold mj_isS mj_isB; decide +kernel)
theorem s_52 : mj_sh 52 = (1, 3) := by decide +kernel
theorem s_53 : mj_sh 53 = (15, 5) := by decide +kernel
theorem s_0 : mj_sh 0 = (9, 5) := by decide +kernel
/-- the history's rows hold the past: n states, the oldest in row o -/
def RH (I : mj_I) (o n : Nat) (p : mv) : Prop := I 52 1 = nI o ∧ I 52 2 = nI n ∧ o < 5 ∧ n ≤ 5 ∧ ∀ a, a < n → RS I (53 + 1 + 48 * ((o + a) % 5)) (fun j => p (2063 * a + j))
section Hi
variable {I : mj_I} {w p : mv}
theorem C_X1_row {o a : Nat} (ho : I 52 1 = nI o) (h5 : o < 5) (ha : a < 5) : mj_R D_X1_row [.inr (some 52), .inl (nI a)] (mj_w I) (mj_ex (some (.inr (some (53 + 1 + 48 * ((o + a) % 5))))) I) := by
  have m0 := s_52
  have m1 := s_53
  have hm : (o + a) % 5 < 5 := Nat.mod_lt _ (by decide)
  have e : nI (o + a) - nI (o + a) / 5 * 5 = nI ((o + a) % 5) := pk_rem (a := o + a) (d := 5) (by omega) (by decide) (by decide)
  refine mj_enter (by decide +kernel) (Nat.le_of_ble_eq_true rfl) ?_
  refine J_ald S_X1_row rfl rfl ?_
  refine J_getI S_X1_row rfl (by assumption) (by omega) ?_
  refine J_ild S_X1_row rfl rfl ?_
  rw [ho]
  refine J_bin S_X1_row rfl ?_
  rw [nI_add]
  refine J_C S_X1_row rfl ?_
  refine J_div S_X1_row rfl (by decide) ?_
  rw [e]
  refine J_ist S_X1_row rfl rfl ?_
  refine J_ild S_X1_row rfl rfl ?_
  refine J_if S_X1_row rfl (fun c10 => False.elim (nI_pos (by omega) c10)) (fun c10 => ?_)
  refine J_ild S_X1_row rfl rfl ?_
  refine J_if S_X1_row rfl (fun c14 => False.elim (nI_pos (by omega) c14)) (fun c14 => ?_)
  refine J_ild S_X1_row rfl rfl ?_
  refine J_ald S_X1_row rfl rfl ?_
  refine J_getR S_X1_row rfl (by assumption) (by omega) rfl ?_
  refine J_len S_X1_row rfl (by assumption) (by omega) (by decide) ?_
  refine J_cmp S_X1_row rfl (fun c23 => False.elim (nI_ge (b := 5) hm (by decide) c23)) (fun c23 => ?_)
  refine J_ald S_X1_row rfl rfl ?_
  refine J_getR S_X1_row rfl (by assumption) (by omega) rfl ?_
  refine J_ild S_X1_row rfl rfl ?_
  refine J_aald S_X1_row rfl (by assumption) (by omega) rfl (by omega) (by decide) rfl ?_
  refine J_goto S_X1_row rfl ?_
  refine J_retA S_X1_row rfl ?_
  exact ⟨rfl, rfl⟩
theorem RS_ext {s : Nat} {w' : mv} (h : RS I s w) (e : ∀ j, j < 2063 → w' j = w j) : RS I s w' := by
  obtain ⟨h1, h2, h3, h4⟩ := h
  have ex : ∀ {b : Nat} {v v' : mv}, RB I b v → IV v → ZB v → (∀ i, i < 687 → v' i = v i) → RB I b v' ∧ IV v' ∧ ZB v' := by
    intro b v v' a1 a2 a3 a4
    have hk : ∀ k f, k < 8 → f < 9 → vk v' k f = vk v k f := fun k f g1 g2 => a4 _ (by omega)
    refine ⟨RB_ext a2.1.2 a1 a4, ?_, fun k hk8 h4 h5 => ?_⟩
    · obtain ⟨b0, b1, b2, b3, b4, b5, b6⟩ := a2
      have l1 := b1.2
      have l0 := b0.2
      refine ⟨by rw [a4 0 (by decide)]; exact b0, by rw [a4 1 (by decide)]; exact b1, by rw [a4 2 (by decide)]; exact b2, fun i hi => by rw [a4 _ (by omega)]; exact b3 i hi, fun j hj => ?_, fun k hk' => ?_, fun k g1 g2 => ?_⟩
      · rw [a4 0 (by decide)] at hj
        rw [a4 _ (by omega), a4 _ (by omega), a4 _ (by omega)]
        exact b4 j hj
      · rw [a4 1 (by decide)] at hk'
        have w := b5 k hk'
        obtain ⟨c1, c2, c3, c4, c5, c6, c7, c8, c9, c10⟩ := w
        unfold WV
        rw [hk k 0 (by omega) (by decide), hk k 1 (by omega) (by decide), hk k 2 (by omega) (by decide), hk k 3 (by omega) (by decide), hk k 4 (by omega) (by decide), hk k 5 (by omega) (by decide), hk k 6 (by omega) (by decide), hk k 7 (by omega) (by decide), a4 0 (by decide)]
        refine ⟨c1, c2, c3, c4, c5, c6, c7, c8, fun x y => ?_, c10⟩
        have z := c7 y
        rw [hk _ 4 (by omega) (by decide), hk _ 4 (by omega) (by decide)]
        exact c9 x y
      · rw [a4 1 (by decide)] at g1
        rw [hk k 4 g2 (by decide)]
        exact b6 k g1 g2
    · rw [hk k 4 hk8 (by decide)] at h4
      rw [hk k 5 hk8 (by decide)] at h5
      rw [hk k 7 hk8 (by decide)]
      exact a3 k hk8 h4 h5
  obtain ⟨x1, x2, x3⟩ := ex h1 h2 h3 (fun i hi => e i (by omega))
  refine ⟨x1, x2, x3, fun q hq => ?_⟩
  obtain ⟨a, b, c⟩ := h4 q hq
  rw [e _ (by omega)]
  refine ⟨a, b, fun g => ?_⟩
  obtain ⟨y1, y2, y3⟩ := c g
  exact ex y1 y2 y3 (fun i hi => e _ (by omega))
/-- p' is the past p with the state w noted behind its n states -/
def NT (n d m : Nat) (p w p' : mv) : Prop := (n < 5 ∧ d = 0 ∧ m = n ∨ n = 5 ∧ d = 1 ∧ m = 4) ∧ (∀ a, a < m → ∀ j, j < 2063 → p' (2063 * a + j) = p (2063 * (a + d) + j)) ∧ ∀ j, j < 2063 → p' (2063 * m + j) = w j
theorem C_X1_record {o n d m : Nat} {p' : mv} (hR : RS I 4 w) (hH : RH I o n p) (hN : NT n d m p w p') : mj_R D_X1_record [.inr (some 52), .inr (some 4)] (mj_w I) (mj_px (fun r I' => r = none ∧ (∀ q, (q < 52 ∨ 294 ≤ q) → I' q = I q) ∧ RH I' ((o + d) % 5) (m + 1) p')) := by
  have m0 := s_52
  have m1 := s_53
  have m4 := mj_S4.1
  obtain ⟨H1, H2, H3, H4, H5⟩ := hH
  obtain ⟨N1, N2, N3⟩ := hN
  have hm5 : m < 5 := by omega
  have ho5 : (o + d) % 5 < 5 := Nat.mod_lt _ (by decide)
  refine mj_enter (by decide +kernel) (Nat.le_of_ble_eq_true rfl) ?_
  have tail : ∀ (I1 : mj_I) (q2 : Option mj_V), (∀ q, q ≠ 52 → I1 q = I q) → I1 52 1 = nI ((o + d) % 5) → I1 52 2 = nI m → mj_J D_X1_record (mj_px (fun r I' => r = none ∧ (∀ q, (q < 52 ∨ 294 ≤ q) → I' q = I q) ∧ RH I' ((o + d) % 5) (m + 1) p')) 30 [some (.inr (some 52)), some (.inr (some 4)), q2] [] (mj_w I1) (0, 0) := by
    intro I1 q2 hF e1 e2
    have hx : ((o + d) % 5 + m) % 5 < 5 := Nat.mod_lt _ (by decide)
    have hrow := C_X1_row (I := I1) e1 ho5 hm5
    have hS := mj_Sh hx
    have hS0 := hS.1
    have hcp := C_X5_copyFrom (I := I1) (w := w) hS mj_S4 (by omega) (RS_fr hR (fun q g1 g2 => hF q (by omega)))
    generalize hx2 : ((o + d) % 5 + m) % 5 = x at *
    have fin : ∀ I2 : mj_I, RS I2 (53 + 1 + 48 * x) w → Fs (53 + 1 + 48 * x) I1 I2 → I2 52 = I1 52 ∧ ((∀ q, (q < 52 ∨ 294 ≤ q) → mj_up I2 52 2 (nI (m + 1)) q = I q) ∧ RH (mj_up I2 52 2 (nI (m + 1))) ((o + d) % 5) (m + 1) p') := by
      intro I2 hr hf
      have e52 : I2 52 = I1 52 := hf 52 (by omega)
      refine ⟨e52, fun q hq => by rw [mj_up_ne (by omega), hf q (by omega), hF q (by omega)], by rw [mj_up_eq, up_n (by decide), e52, e1], by rw [mj_up_eq, up_s], ho5, by omega, fun a ha => ?_⟩
      by_cases e : a = m
      · subst e
        rw [hx2]
        exact RS_fr (RS_ext hr (fun j hj => N3 j hj)) (fun q g1 g2 => mj_up_ne (by omega))
      · have ha' : a < m := by omega
        have h := H5 (a + d) (by omega)
        rw [show (o + (a + d)) % 5 = ((o + d) % 5 + a) % 5 by omega] at h
        have hne : ((o + d) % 5 + a) % 5 ≠ x := by omega
        have hlt : ((o + d) % 5 + a) % 5 < 5 := Nat.mod_lt _ (by decide)
        generalize ((o + d) % 5 + a) % 5 = y at *
        exact RS_fr (RS_ext h (fun j hj => N2 a ha' j hj)) (fun q g1 g2 => by rw [mj_up_ne (by omega), hf q (by omega), hF q (by omega)])
    refine J_ald S_X1_record rfl rfl ?_
    refine J_ald S_X1_record rfl rfl ?_
    refine J_getI S_X1_record rfl (by assumption) (by omega) ?_
    rw [e2]
    refine J_CVx S_X1_record rfl rfl (by assumption) (by omega) (by simp) (hrow) rfl ?_
    refine J_ast S_X1_record rfl rfl ?_
    refine J_ald S_X1_record rfl rfl ?_
    refine J_nuS S_X1_record rfl ?_
    refine J_ald S_X1_record rfl rfl ?_
    refine J_ald S_X1_record rfl rfl ?_
    refine J_CV S_X1_record rfl rfl (by assumption) (by omega) (by simp) (hcp) ?_
    rintro _ _ ⟨I2, rfl, rfl, hr, hf⟩
    refine J_ald S_X1_record rfl rfl ?_
    refine J_dup S_X1_record rfl ?_
    refine J_getI S_X1_record rfl (by assumption) (by omega) ?_
    refine J_C S_X1_record rfl ?_
    refine J_bin S_X1_record rfl ?_
    refine J_putI S_X1_record rfl (by assumption) (by omega) ?_
    refine J_retV S_X1_record rfl ?_
    obtain ⟨e52, f1, f2⟩ := fin I2 hr hf
    rw [e52, e2, ← nI_succ]
    exact ⟨_, rfl, rfl, f1, f2⟩
  rcases N1 with ⟨h1, rfl, rfl⟩ | ⟨h1, rfl, rfl⟩
  · have g := tail I none (fun _ _ => rfl) (by rw [H1, Nat.add_zero, Nat.mod_eq_of_lt H3]) H2
    refine J_ald S_X1_record rfl rfl ?_
    refine J_getI S_X1_record rfl (by assumption) (by omega) ?_
    rw [H2]
    refine J_C S_X1_record rfl ?_
    refine J_cmp S_X1_record rfl (fun c5 => ?_) (fun c5 => False.elim (absurd ((nI_eq (b := 5) (by omega) (by decide)).mp c5) (by omega)))
    exact g
  · subst h1
    have e : nI (o + 1) - nI (o + 1) / 5 * 5 = nI ((o + 1) % 5) := pk_rem (a := o + 1) (d := 5) (by omega) (by decide) (by decide)
    refine J_ald S_X1_record rfl rfl ?_
    refine J_getI S_X1_record rfl (by assumption) (by omega) ?_
    rw [H2]
    refine J_C S_X1_record rfl ?_
    refine J_cmp S_X1_record rfl (fun c5 => False.elim (c5 rfl)) (fun c5 => ?_)
    refine J_ald S_X1_record rfl rfl ?_
    refine J_ald S_X1_record rfl rfl ?_
    refine J_getI S_X1_record rfl (by assumption) (by omega) ?_
    rw [H1]
    refine J_C S_X1_record rfl ?_
    refine J_bin S_X1_record rfl ?_
    rw [← nI_succ]
    refine J_C S_X1_record rfl ?_
    refine J_div S_X1_record rfl (by decide) ?_
    rw [e]
    refine J_putI S_X1_record rfl (by assumption) (by omega) ?_
    refine J_ald S_X1_record rfl rfl ?_
    refine J_dup S_X1_record rfl ?_
    refine J_getI S_X1_record rfl (by assumption) (by omega) ?_
    rw [mj_up_eq, up_n (by decide), H2]
    refine J_C S_X1_record rfl ?_
    refine J_bin S_X1_record rfl ?_
    refine J_putI S_X1_record rfl (by assumption) (by omega) ?_
    exact tail _ none (fun q hq => by rw [mj_up_ne hq, mj_up_ne hq]) (by rw [mj_up_eq, up_n (by decide), mj_up_eq, up_s]) (by rw [mj_up_eq, up_s]; rfl)
theorem C_X1_removeLatestInto {o n : Nat} (hH : RH I o (n + 1) p) : mj_R D_X1_removeLatestInto [.inr (some 52), .inr (some 4)] (mj_w I) (mj_px (fun r I' => r = none ∧ (∀ q, (q < 4 ∨ 294 ≤ q) → I' q = I q) ∧ RS I' 4 (fun j => p (2063 * n + j)) ∧ RH I' o n p)) := by
  have m0 := s_52
  have m1 := s_53
  have m4 := mj_S4.1
  obtain ⟨H1, H2, H3, H4, H5⟩ := hH
  have hx : (o + n) % 5 < 5 := Nat.mod_lt _ (by decide)
  have hrow := C_X1_row (I := I) (a := n) H1 H3 (by omega)
  have hS := mj_Sh hx
  have hcp := C_X5_copyFrom (I := I) mj_S4 hS (by omega) (H5 n (by omega))
  refine mj_enter (by decide +kernel) (Nat.le_of_ble_eq_true rfl) ?_
  have fin : ∀ I2 : mj_I, RS I2 4 (fun j => p (2063 * n + j)) → Fs 4 I I2 → I2 52 = I 52 ∧ ((∀ q, (q < 4 ∨ 294 ≤ q) → mj_up I2 52 2 (nI n) q = I q) ∧ RS (mj_up I2 52 2 (nI n)) 4 (fun j => p (2063 * n + j)) ∧ RH (mj_up I2 52 2 (nI n)) o n p) := by
    intro I2 hr hf
    have e52 : I2 52 = I 52 := hf 52 (by omega)
    refine ⟨e52, fun q hq => by rw [mj_up_ne (by omega), hf q (by omega)], RS_fr hr (fun q g1 g2 => mj_up_ne (by omega)), by rw [mj_up_eq, up_n (by decide), e52, H1], by rw [mj_up_eq, up_s], H3, by omega, fun a ha => ?_⟩
    exact RS_fr (H5 a (by omega)) (fun q g1 g2 => by rw [mj_up_ne (by omega), hf q (by omega)])
  refine J_ald S_X1_removeLatestInto rfl rfl ?_
  refine J_ald S_X1_removeLatestInto rfl rfl ?_
  refine J_getI S_X1_removeLatestInto rfl (by assumption) (by omega) ?_
  rw [H2]
  refine J_C S_X1_removeLatestInto rfl ?_
  refine J_bin S_X1_removeLatestInto rfl ?_
  rw [nI_pred]
  refine J_CVx S_X1_removeLatestInto rfl rfl (by assumption) (by omega) (by simp) (hrow) rfl ?_
  refine J_ast S_X1_removeLatestInto rfl rfl ?_
  refine J_ald S_X1_removeLatestInto rfl rfl ?_
  refine J_nuS S_X1_removeLatestInto rfl ?_
  refine J_ald S_X1_removeLatestInto rfl rfl ?_
  refine J_ald S_X1_removeLatestInto rfl rfl ?_
  refine J_CV S_X1_removeLatestInto rfl rfl (by assumption) (by omega) (by simp) (hcp) ?_
  rintro _ _ ⟨I2, rfl, rfl, hr, hf⟩
  refine J_ald S_X1_removeLatestInto rfl rfl ?_
  refine J_dup S_X1_removeLatestInto rfl ?_
  refine J_getI S_X1_removeLatestInto rfl (by assumption) (by omega) ?_
  refine J_C S_X1_removeLatestInto rfl ?_
  refine J_bin S_X1_removeLatestInto rfl ?_
  refine J_putI S_X1_removeLatestInto rfl (by assumption) (by omega) ?_
  refine J_retV S_X1_removeLatestInto rfl ?_
  obtain ⟨e52, f1, f2⟩ := fin I2 hr hf
  rw [e52, H2, nI_pred]
  exact ⟨_, rfl, rfl, f1, f2⟩
end Hi
