theorem OR_get {v : mv} (r : Nat) : ∃ n t, n ≤ 8 ∧ (∀ i, t i < 8) ∧ OR v r (wt v) n t := by
  obtain ⟨n, t, hn, h⟩ := OR_ex v r (fun k => ex v k && decide (vk v k 5 = 0)) 8
  have hw : OR v r (wt v) n t := OR_cg h (fun k => rfl)
  refine ⟨n, fun i => if i < n then t i else 0, hn, fun i => ?_, ?_, fun k => ?_⟩
  · by_cases c : i < n
    · show (if i < n then t i else 0) < 8
      rw [if_pos c]
      exact (OR_mem hw c).1
    · show (if i < n then t i else 0) < 8
      rw [if_neg c]
      decide
  · intro i j hij hj
    show lx v r (if i < n then t i else 0) (if j < n then t j else 0)
    rw [if_pos (by omega), if_pos hj]
    exact hw.1 i j hij hj
  · rw [hw.2 k]
    constructor
    · rintro ⟨i, hi, e⟩
      exact ⟨i, hi, by show (if i < n then t i else 0) = k; rw [if_pos hi]; exact e⟩
    · rintro ⟨i, hi, e⟩
      refine ⟨i, hi, ?_⟩
      change (if i < n then t i else 0) = k at e
      rw [if_pos hi] at e
      exact e
theorem ks_eq (v : mv) (k : Nat) : ks v k = if vk v k 0 = 4 then tb_n 0 (ks_s v) k (tn (vk v k 2)) + tb_n 0 (ks_s v) k (tn (vk v k 3)) else tn (vk v k 3) + 1 - tn (vk v k 2) := rfl
theorem ks_le {v : mv} (hI : IV v) : ∀ m k, k < m → k < 8 → vk v k 4 = 1 → ks v k ≤ 12 * 2 ^ k
  | 0, k, h, _, _ => absurd h (Nat.not_lt_zero k)
  | m + 1, k, h, hk, he => by
    have hw := hI.wv hk he
    obtain ⟨-, -, -, -, w2, w3, w4, -, w9, -⟩ := hw
    rw [ks_eq]
    by_cases c : vk v k 0 = 4
    · obtain ⟨a1, a2⟩ := w4 c
      obtain ⟨b1, b2⟩ := w9 he c
      rw [if_pos c, tb_lt a1, tb_lt a2]
      have h1 : ks v (tn (vk v k 2)) ≤ 12 * 2 ^ tn (vk v k 2) := ks_le hI m _ (by omega) (by omega) b1
      have h2 : ks v (tn (vk v k 3)) ≤ 12 * 2 ^ tn (vk v k 3) := ks_le hI m _ (by omega) (by omega) b2
      have h3 : 2 ^ tn (vk v k 2) ≤ 2 ^ (k - 1) := Nat.pow_le_pow_right (by decide) (by omega)
      have h4 : 2 ^ tn (vk v k 3) ≤ 2 ^ (k - 1) := Nat.pow_le_pow_right (by decide) (by omega)
      have h5 : 2 ^ k = 2 ^ (k - 1) * 2 := by rw [← Nat.pow_succ]; exact congrArg (2 ^ ·) (by omega)
      change ks v (tn (vk v k 2)) + ks v (tn (vk v k 3)) ≤ _
      omega
    · rw [if_neg c]
      have := w3.2
      have h1 : 1 ≤ 2 ^ k := Nat.one_le_two_pow
      omega
theorem fc_rg {v : mv} (hI : IV v) {k : Nat} (hk : k < 8) (he : vk v k 4 = 1) (hf : fcost v k ≤ v 2) : rg (v 2 - fcost v k) 9999 := by
  have h10 : rg (v 10) 20 := (hI.2.2.2.1 1 (by decide)).1
  have h2 := hI.2.2.1
  have hk1 := ks_le hI 8 k hk hk he
  have hp : 2 ^ k ≤ 2 ^ 7 := Nat.pow_le_pow_right (by decide) (by omega)
  have e7 : (2 : Nat) ^ 7 = 128 := rfl
  have e : fcost v k = nI (3 * tn (v 10) * ks v k) := by
    unfold fcost
    rw [h10.1, tn_nI (by have := h10.2; omega), show (3 : Int32) = nI 3 from rfl, pk_mul, pk_mul]
  have hb : 3 * tn (v 10) * ks v k ≤ 60 * 1536 := Nat.mul_le_mul (by have := h10.2; omega) (by omega)
  rw [e, h2.1] at hf
  have hle := (nI_leI (by omega) (by have := h2.2; omega)).mp hf
  rw [e, h2.1, pk_sub hle]
  exact rg_nI (by have := h2.2; omega) (by decide)
section P3
variable {I : mj_I}
theorem Z_find {w : mv} (hR : RB I 5 w) (hI : IV w) {x : Int32} : mj_R D_X0_find [.inr (some 5), .inl x] (mj_w I) (mj_ex (some (.inr (if isV w x = true then some (5 + 7 + tn x) else none))) I) :=
  C_X0_find (x := x) mj_B5 (fun k hk => (hR.2.2.2.2 k hk).1) (fun k hk => hI.b01 hk)
theorem Z_find_n {w : mv} (hR : RB I 5 w) (hI : IV w) {x : Int32} (h : isV w x = false) : mj_R D_X0_find [.inr (some 5), .inl x] (mj_w I) (mj_ex (some (.inr none)) I) := by
  have g := Z_find hR hI (x := x)
  rw [h, if_neg (by decide)] at g
  exact g
theorem Z_find_y {w : mv} (hR : RB I 5 w) (hI : IV w) {k : Nat} (hk : k < 8) (he : vk w k 4 = 1) : mj_R D_X0_find [.inr (some 5), .inl (nI k)] (mj_w I) (mj_ex (some (.inr (some (5 + 7 + k)))) I) := C_X0_find_y mj_B5 hR hI hk he
theorem isV_y {w : mv} (hI : IV w) {x : Int32} (h : isV w x = true) : ∃ k, x = nI k ∧ k < 8 ∧ vk w k 4 = 1 ∧ k < tn (w 1) ∧ (vk w k 5 = 0 ∨ vk w k 5 = 1) := by
  obtain ⟨a, b, c, d⟩ := isV_e hI h
  exact ⟨tn x, a, b, c, d, rg_01 (hI.wv b c).2.2.2.2.2.2.2.2.2.1⟩
theorem vw_sh {k : Nat} (hk : k < 8) : mj_sh (5 + 7 + k) = (8, 11) := mj_B5.2.2.2.2.2.2.2.1 k hk
/-! pay -/
theorem X9_pay_no {w : mv} (hR : RB I 5 w) (hI : IV w) {a c : Int32} (h : ¬ (isV w a = true ∧ (1 ≤ c ∧ c ≤ 999))) : mj_R D_X9_pay [.inr (some 0), .inl a, .inl c] (mj_w I) (mj_ex (some (.inl (-100000001))) I) := by
  have m0 := s_0
  have m4 := mj_S4.1
  have m5 := mj_B5.1
  refine mj_enter (by decide +kernel) (Nat.le_of_ble_eq_true rfl) ?_
  cases hv : isV w a
  · refine J_ald S_X9_pay rfl rfl ?_
    refine J_getR S_X9_pay rfl (o' := 4) (by assumption) (by omega) rfl ?_
    refine J_getR S_X9_pay rfl (o' := 5) (by assumption) (by omega) rfl ?_
    refine J_ast S_X9_pay rfl rfl ?_
    refine J_ald S_X9_pay rfl rfl ?_
    refine J_ild S_X9_pay rfl rfl ?_
    refine J_CVx S_X9_pay rfl rfl (by assumption) (by omega) (by simp) (Z_find_n hR hI hv) rfl ?_
    refine J_ast S_X9_pay rfl rfl ?_
    refine J_ald S_X9_pay rfl rfl ?_
    refine J_nuN S_X9_pay rfl ?_
    refine J_C S_X9_pay rfl ?_
    refine J_retI S_X9_pay rfl ?_
    exact ⟨rfl, rfl⟩
  · obtain ⟨k, rfl, hk, he, -⟩ := isV_y hI hv
    have h3 : ¬ (1 ≤ c ∧ c ≤ 999) := fun g => h ⟨hv, g⟩
    refine J_ald S_X9_pay rfl rfl ?_
    refine J_getR S_X9_pay rfl (o' := 4) (by assumption) (by omega) rfl ?_
    refine J_getR S_X9_pay rfl (o' := 5) (by assumption) (by omega) rfl ?_
    refine J_ast S_X9_pay rfl rfl ?_
    refine J_ald S_X9_pay rfl rfl ?_
    refine J_ild S_X9_pay rfl rfl ?_
    refine J_CVx S_X9_pay rfl rfl (by assumption) (by omega) (by simp) (Z_find_y hR hI hk he) rfl ?_
    refine J_ast S_X9_pay rfl rfl ?_
    refine J_ald S_X9_pay rfl rfl ?_
    refine J_nuS S_X9_pay rfl ?_
    refine J_ild S_X9_pay rfl rfl ?_
    refine J_C S_X9_pay rfl ?_
    refine J_cmp S_X9_pay rfl (fun c22 => ?_) (fun c22 => ?_)
    · refine J_C S_X9_pay rfl ?_
      refine J_retI S_X9_pay rfl ?_
      exact ⟨rfl, rfl⟩
    · refine J_ild S_X9_pay rfl rfl ?_
      refine J_C S_X9_pay rfl ?_
      refine J_cmp S_X9_pay rfl (fun c29 => ?_) (fun c29 => ?_)
      · exact absurd ⟨Int32.not_lt.mp c22, c29⟩ h3
      · refine J_C S_X9_pay rfl ?_
        refine J_retI S_X9_pay rfl ?_
        exact ⟨rfl, rfl⟩
theorem X9_pay_ill {w : mv} (hR : RB I 5 w) (hI : IV w) {k : Nat} {c : Int32} (hk : k < 8) (he : vk w k 4 = 1) (hc : 1 ≤ c ∧ c ≤ 999) (h : vk w k 5 = 1 ∨ w 2 = 0) : mj_R D_X9_pay [.inr (some 0), .inl (nI k), .inl c] (mj_w I) (mj_ex (some (.inl (-100000002))) I) := by
  have m0 := s_0
  have m4 := mj_S4.1
  have m5 := mj_B5.1
  have mv := vw_sh hk
  have e7 : I (5 + 7 + k) 7 = vk w k 5 := ((hR.2.2.2.2 k hk).2.2 he).2.2.2.2.2.2.1
  have et : I 5 5 = w 2 := hR.2.1 1 (by decide)
  refine mj_enter (by decide +kernel) (Nat.le_of_ble_eq_true rfl) ?_
  refine J_ald S_X9_pay rfl rfl ?_
  refine J_getR S_X9_pay rfl (o' := 4) (by assumption) (by omega) rfl ?_
  refine J_getR S_X9_pay rfl (o' := 5) (by assumption) (by omega) rfl ?_
  refine J_ast S_X9_pay rfl rfl ?_
  refine J_ald S_X9_pay rfl rfl ?_
  refine J_ild S_X9_pay rfl rfl ?_
  refine J_CVx S_X9_pay rfl rfl (by assumption) (by omega) (by simp) (Z_find_y hR hI hk he) rfl ?_
  refine J_ast S_X9_pay rfl rfl ?_
  refine J_ald S_X9_pay rfl rfl ?_
  refine J_nuS S_X9_pay rfl ?_
  refine J_ild S_X9_pay rfl rfl ?_
  refine J_C S_X9_pay rfl ?_
  refine J_cmp S_X9_pay rfl (fun c22 => False.elim (Int32.not_lt.mpr hc.1 c22)) (fun c22 => ?_)
  refine J_ild S_X9_pay rfl rfl ?_
  refine J_C S_X9_pay rfl ?_
  refine J_cmp S_X9_pay rfl (fun c29 => ?_) (fun c29 => False.elim (c29 hc.2))
  refine J_ald S_X9_pay rfl rfl ?_
  refine J_getI S_X9_pay rfl (by assumption) (by omega) ?_
  rw [e7]
  refine J_if S_X9_pay rfl (fun c40 => ?_) (fun c40 => ?_)
  · refine J_C S_X9_pay rfl ?_
    refine J_retI S_X9_pay rfl ?_
    exact ⟨rfl, rfl⟩
  · refine J_ald S_X9_pay rfl rfl ?_
    refine J_getI S_X9_pay rfl (by assumption) (by omega) ?_
    rw [et]
    refine J_if S_X9_pay rfl (fun c47 => ?_) (fun c47 => ?_)
    · exact (h.elim (fun g => absurd (g.symm.trans c40) (by decide)) (fun g => absurd g c47))
    · refine J_C S_X9_pay rfl ?_
      refine J_retI S_X9_pay rfl ?_
      exact ⟨rfl, rfl⟩
theorem X9_pay_ok {w p : mv} {o n L : Nat} {f : Nat → Int32} (hc : CR I w p o n L f) {k c : Nat} (hk : k < 8) (he : vk w k 4 = 1) (hz : vk w k 5 = 0) (hc1 : 1 ≤ c) (hc2 : c ≤ 999) (ht : ¬ w 2 = 0) : mj_R D_X9_pay [.inr (some 0), .inl (nI k), .inl (nI c)] (mj_w I) (mj_px (fun r I2 => r = some (.inl (nI (pyD w k (min c (tn (w 2))) + pyA w k (min c (tn (w 2)))))) ∧ ∃ I1, RC I I1 w p o n ∧ RB I2 5 (payV w k (min c (tn (w 2)))) ∧ Fr 5 I1 I2)) := by
  have m0 := s_0
  have m4 := mj_S4.1
  have m5 := mj_B5.1
  have m52 := s_52
  have mv := vw_sh hk
  have hR := hc.1.1
  have hI := hc.1.2.1
  have e7 : I (5 + 7 + k) 7 = vk w k 5 := ((hR.2.2.2.2 k hk).2.2 he).2.2.2.2.2.2.1
  have et : I 5 5 = w 2 := hR.2.1 1 (by decide)
  have hrec := Z_rec hc
  have hpo := fun (I1 : mj_I) (hr : RC I I1 w p o n) => C_X0_payOne (I := I1) mj_B5 (RC_R hc hr).1 hI hk he hz (c := c) (by omega)
  refine mj_enter (by decide +kernel) (Nat.le_of_ble_eq_true rfl) ?_
  refine J_ald S_X9_pay rfl rfl ?_
  refine J_getR S_X9_pay rfl (o' := 4) (by assumption) (by omega) rfl ?_
  refine J_getR S_X9_pay rfl (o' := 5) (by assumption) (by omega) rfl ?_
  refine J_ast S_X9_pay rfl rfl ?_
  refine J_ald S_X9_pay rfl rfl ?_
  refine J_ild S_X9_pay rfl rfl ?_
  refine J_CVx S_X9_pay rfl rfl (by assumption) (by omega) (by simp) (Z_find_y hR hI hk he) rfl ?_
  refine J_ast S_X9_pay rfl rfl ?_
  refine J_ald S_X9_pay rfl rfl ?_
  refine J_nuS S_X9_pay rfl ?_
  refine J_ild S_X9_pay rfl rfl ?_
  refine J_C S_X9_pay rfl ?_
  refine J_cmp S_X9_pay rfl (fun c22 => False.elim (nI_nlt (show 1 ≤ c from hc1) (by omega) c22)) (fun c22 => ?_)
  refine J_ild S_X9_pay rfl rfl ?_
  refine J_C S_X9_pay rfl ?_
  refine J_cmp S_X9_pay rfl (fun c29 => ?_) (fun c29 => False.elim (c29 (nI_le (b := 999) hc2 (by decide))))
  refine J_ald S_X9_pay rfl rfl ?_
  refine J_getI S_X9_pay rfl (by assumption) (by omega) ?_
  rw [e7]
  refine J_if S_X9_pay rfl (fun c40 => False.elim (c40 hz)) (fun c40 => ?_)
  refine J_ald S_X9_pay rfl rfl ?_
  refine J_getI S_X9_pay rfl (by assumption) (by omega) ?_
  rw [et]
  refine J_if S_X9_pay rfl (fun c47 => ?_) (fun c47 => False.elim (ht c47))
  refine J_ald S_X9_pay rfl rfl ?_
  refine J_getR S_X9_pay rfl (o' := 52) (by assumption) (by omega) rfl ?_
  refine J_ald S_X9_pay rfl rfl ?_
  refine J_getR S_X9_pay rfl (o' := 4) (by assumption) (by omega) rfl ?_
  refine J_CV S_X9_pay rfl rfl (by assumption) (by omega) (by simp) (hrec) ?_
  rintro _ _ ⟨I1, rfl, rfl, hr⟩
  refine J_ald S_X9_pay rfl rfl ?_
  refine J_ald S_X9_pay rfl rfl ?_
  refine J_ild S_X9_pay rfl rfl ?_
  refine J_CV S_X9_pay rfl rfl (by assumption) (by omega) (by simp) (hpo I1 hr) ?_
  rintro _ _ ⟨I2, rfl, rfl, g1, g2, g3⟩
  refine J_retI S_X9_pay rfl ?_
  exact ⟨I2, rfl, rfl, I1, hr, g1, g2⟩
/-! found -/
theorem X9_found_no {w : mv} (hR : RB I 5 w) (hI : IV w) {a : Int32} (h : isV w a = false) : mj_R D_X9_found [.inr (some 0), .inl a] (mj_w I) (mj_ex (some (.inl (-100000001))) I) := by
  have m0 := s_0
  have m4 := mj_S4.1
  have m5 := mj_B5.1
  refine mj_enter (by decide +kernel) (Nat.le_of_ble_eq_true rfl) ?_
  refine J_ald S_X9_found rfl rfl ?_
  refine J_getR S_X9_found rfl (o' := 4) (by assumption) (by omega) rfl ?_
  refine J_getR S_X9_found rfl (o' := 5) (by assumption) (by omega) rfl ?_
  refine J_ast S_X9_found rfl rfl ?_
  refine J_ald S_X9_found rfl rfl ?_
  refine J_ild S_X9_found rfl rfl ?_
  refine J_CVx S_X9_found rfl rfl (by assumption) (by omega) (by simp) (Z_find_n hR hI h) rfl ?_
  refine J_ast S_X9_found rfl rfl ?_
  refine J_ald S_X9_found rfl rfl ?_
  refine J_nnN S_X9_found rfl ?_
  refine J_C S_X9_found rfl ?_
  refine J_retI S_X9_found rfl ?_
  exact ⟨rfl, rfl⟩
theorem X9_found_ill {w : mv} (hR : RB I 5 w) (hI : IV w) {k : Nat} (hk : k < 8) (he : vk w k 4 = 1) (h : vk w k 5 = 0 ∨ ¬ fcost w k ≤ w 2) : mj_R D_X9_found [.inr (some 0), .inl (nI k)] (mj_w I) (mj_ex (some (.inl (-100000002))) I) := by
  have m0 := s_0
  have m4 := mj_S4.1
  have m5 := mj_B5.1
  have mv := vw_sh hk
  have e7 : I (5 + 7 + k) 7 = vk w k 5 := ((hR.2.2.2.2 k hk).2.2 he).2.2.2.2.2.2.1
  have et : I 5 5 = w 2 := hR.2.1 1 (by decide)
  have hfc : mj_R D_X0_foundingCost [.inr (some 5), .inr (some (5 + 7 + k))] (mj_w I) (mj_ex (some (.inl (fcost w k))) I) := C_X0_foundingCost mj_B5 hR hk he
  refine mj_enter (by decide +kernel) (Nat.le_of_ble_eq_true rfl) ?_
  refine J_ald S_X9_found rfl rfl ?_
  refine J_getR S_X9_found rfl (o' := 4) (by assumption) (by omega) rfl ?_
  refine J_getR S_X9_found rfl (o' := 5) (by assumption) (by omega) rfl ?_
  refine J_ast S_X9_found rfl rfl ?_
  refine J_ald S_X9_found rfl rfl ?_
  refine J_ild S_X9_found rfl rfl ?_
  refine J_CVx S_X9_found rfl rfl (by assumption) (by omega) (by simp) (Z_find_y hR hI hk he) rfl ?_
  refine J_ast S_X9_found rfl rfl ?_
  refine J_ald S_X9_found rfl rfl ?_
  refine J_nnS S_X9_found rfl ?_
  refine J_ald S_X9_found rfl rfl ?_
  refine J_ald S_X9_found rfl rfl ?_
  refine J_CVx S_X9_found rfl rfl (by assumption) (by omega) (by simp) (hfc) rfl ?_
  refine J_ist S_X9_found rfl rfl ?_
  refine J_ald S_X9_found rfl rfl ?_
  refine J_getI S_X9_found rfl (by assumption) (by omega) ?_
  rw [e7]
  refine J_if S_X9_found rfl (fun c32 => ?_) (fun c32 => ?_)
  · refine J_C S_X9_found rfl ?_
    refine J_retI S_X9_found rfl ?_
    exact ⟨rfl, rfl⟩
  · refine J_ald S_X9_found rfl rfl ?_
    refine J_getI S_X9_found rfl (by assumption) (by omega) ?_
    refine J_ild S_X9_found rfl rfl ?_
    rw [et]
    refine J_cmp S_X9_found rfl (fun c41 => ?_) (fun c41 => ?_)
    · exact (h.elim (fun g => absurd g c32) (fun g => absurd c41 g))
    · refine J_C S_X9_found rfl ?_
      refine J_retI S_X9_found rfl ?_
      exact ⟨rfl, rfl⟩
theorem X9_found_ok {w p : mv} {o n L : Nat} {f : Nat → Int32} (hc : CR I w p o n L f) {k : Nat} (hk : k < 8) (he : vk w k 4 = 1) (hz : vk w k 5 = 1) (hf : fcost w k ≤ w 2) : mj_R D_X9_found [.inr (some 0), .inl (nI k)] (mj_w I) (mj_px (fun r I2 => r = some (.inl (fcost w k)) ∧ ∃ I1, RC I I1 w p o n ∧ RB I2 5 (foundV w k (fcost w k)) ∧ Fr 5 I1 I2)) := by
  have m0 := s_0
  have m4 := mj_S4.1
  have m5 := mj_B5.1
  have m52 := s_52
  have mv := vw_sh hk
  have hR := hc.1.1
  have hI := hc.1.2.1
  have e7 : I (5 + 7 + k) 7 = vk w k 5 := ((hR.2.2.2.2 k hk).2.2 he).2.2.2.2.2.2.1
  have et : I 5 5 = w 2 := hR.2.1 1 (by decide)
  have hfc : mj_R D_X0_foundingCost [.inr (some 5), .inr (some (5 + 7 + k))] (mj_w I) (mj_ex (some (.inl (fcost w k))) I) := C_X0_foundingCost mj_B5 hR hk he
  have hrec := Z_rec hc
  have hpo := fun (I1 : mj_I) (hr : RC I I1 w p o n) => C_X0_foundAnew (I := I1) (c := fcost w k) mj_B5 (RC_R hc hr).1 hI hc.1.2.2.1 hk he hz
  have n0 : ¬ vk w k 5 = 0 := by rw [hz]; decide
  refine mj_enter (by decide +kernel) (Nat.le_of_ble_eq_true rfl) ?_
  refine J_ald S_X9_found rfl rfl ?_
  refine J_getR S_X9_found rfl (o' := 4) (by assumption) (by omega) rfl ?_
  refine J_getR S_X9_found rfl (o' := 5) (by assumption) (by omega) rfl ?_
  refine J_ast S_X9_found rfl rfl ?_
  refine J_ald S_X9_found rfl rfl ?_
  refine J_ild S_X9_found rfl rfl ?_
  refine J_CVx S_X9_found rfl rfl (by assumption) (by omega) (by simp) (Z_find_y hR hI hk he) rfl ?_
  refine J_ast S_X9_found rfl rfl ?_
  refine J_ald S_X9_found rfl rfl ?_
  refine J_nnS S_X9_found rfl ?_
  refine J_ald S_X9_found rfl rfl ?_
  refine J_ald S_X9_found rfl rfl ?_
  refine J_CVx S_X9_found rfl rfl (by assumption) (by omega) (by simp) (hfc) rfl ?_
  refine J_ist S_X9_found rfl rfl ?_
  refine J_ald S_X9_found rfl rfl ?_
  refine J_getI S_X9_found rfl (by assumption) (by omega) ?_
  rw [e7]
  refine J_if S_X9_found rfl (fun c32 => False.elim (n0 c32)) (fun c32 => ?_)
  refine J_ald S_X9_found rfl rfl ?_
  refine J_getI S_X9_found rfl (by assumption) (by omega) ?_
  refine J_ild S_X9_found rfl rfl ?_
  rw [et]
  refine J_cmp S_X9_found rfl (fun c41 => ?_) (fun c41 => False.elim (c41 hf))
  refine J_ald S_X9_found rfl rfl ?_
  refine J_getR S_X9_found rfl (o' := 52) (by assumption) (by omega) rfl ?_
  refine J_ald S_X9_found rfl rfl ?_
  refine J_getR S_X9_found rfl (o' := 4) (by assumption) (by omega) rfl ?_
  refine J_CV S_X9_found rfl rfl (by assumption) (by omega) (by simp) (hrec) ?_
  rintro _ _ ⟨I1, rfl, rfl, hr⟩
  refine J_ald S_X9_found rfl rfl ?_
  refine J_ald S_X9_found rfl rfl ?_
  refine J_ild S_X9_found rfl rfl ?_
  refine J_CV S_X9_found rfl rfl (by assumption) (by omega) (by simp) (hpo I1 hr) ?_
  rintro _ _ ⟨I2, rfl, rfl, g1, g2⟩
  refine J_ild S_X9_found rfl rfl ?_
  refine J_retI S_X9_found rfl ?_
  exact ⟨I2, rfl, rfl, I1, hr, g1, g2⟩
end P3
