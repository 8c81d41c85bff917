theorem OR_get {v : mv} (r : Nat) : ∃ n t, n ≤ 8 ∧ (∀ i, t i < 8) ∧ OR v r (wt v) n t := by
  obtain ⟨n, t, hn, h⟩ := OR_ex v r (fun k => ex v k && decide (vk v k 5 = 0)) 8
  have hw : OR v r (wt v) n t := OR_cg h (fun k => rfl)
  refine ⟨n, fun i => if i < n then t i else 0, hn, fun i => ?_, ?_, fun k => ?_⟩
  · by_cases c : i < n
    · show (if i < n then t i else 0) < 8
      rw [if_pos c]
      exact (OR_mem hw c).1
    · show (if i < n then t i else 0) < 8
      rw [if_neg c]
      decide
  · intro i j hij hj
    show lx v r (if i < n then t i else 0) (if j < n then t j else 0)
    rw [if_pos (by omega), if_pos hj]
    exact hw.1 i j hij hj
  · rw [hw.2 k]
    constructor
    · rintro ⟨i, hi, e⟩
      exact ⟨i, hi, by show (if i < n then t i else 0) = k; rw [if_pos hi]; exact e⟩
    · rintro ⟨i, hi, e⟩
      refine ⟨i, hi, ?_⟩
      change (if i < n then t i else 0) = k at e
      rw [if_pos hi] at e
      exact e
theorem ks_eq (v : mv) (k : Nat) : ks v k = if vk v k 0 = 4 then tb_n 0 (ks_s v) k (tn (vk v k 2)) + tb_n 0 (ks_s v) k (tn (vk v k 3)) else tn (vk v k 3) + 1 - tn (vk v k 2) := rfl
theorem ks_le {v : mv} (hI : IV v) : ∀ m k, k < m → k < 8 → vk v k 4 = 1 → ks v k ≤ 12 * 2 ^ k
  | 0, k, h, _, _ => absurd h (Nat.not_lt_zero k)
  | m + 1, k, h, hk, he => by
    have hw := hI.wv hk he
    obtain ⟨-, -, -, -, w2, w3, w4, -, w9, -⟩ := hw
    rw [ks_eq]
    by_cases c : vk v k 0 = 4
    · obtain ⟨a1, a2⟩ := w4 c
      obtain ⟨b1, b2⟩ := w9 he c
      rw [if_pos c, tb_lt a1, tb_lt a2]
      have h1 : ks v (tn (vk v k 2)) ≤ 12 * 2 ^ tn (vk v k 2) := ks_le hI m _ (by omega) (by omega) b1
      have h2 : ks v (tn (vk v k 3)) ≤ 12 * 2 ^ tn (vk v k 3) := ks_le hI m _ (by omega) (by omega) b2
      have h3 : 2 ^ tn (vk v k 2) ≤ 2 ^ (k - 1) := Nat.pow_le_pow_right (by decide) (by omega)
      have h4 : 2 ^ tn (vk v k 3) ≤ 2 ^ (k - 1) := Nat.pow_le_pow_right (by decide) (by omega)
      have h5 : 2 ^ k = 2 ^ (k - 1) * 2 := by rw [← Nat.pow_succ]; exact congrArg (2 ^ ·) (by omega)
      change ks v (tn (vk v k 2)) + ks v (tn (vk v k 3)) ≤ _
      omega
    · rw [if_neg c]
      have := w3.2
      have h1 : 1 ≤ 2 ^ k := Nat.one_le_two_pow
      omega
theorem fc_rg {v : mv} (hI : IV v) {k : Nat} (hk : k < 8) (he : vk v k 4 = 1) (hf : fcost v k ≤ v 2) : rg (v 2 - fcost v k) 9999 := by
  have h10 : rg (v 10) 20 := (hI.2.2.2.1 1 (by decide)).1
  have h2 := hI.2.2.1
  have hk1 := ks_le hI 8 k hk hk he
  have hp : 2 ^ k ≤ 2 ^ 7 := Nat.pow_le_pow_right (by decide) (by omega)
  have e7 : (2 : Nat) ^ 7 = 128 := rfl
  have e : fcost v k = nI (3 * tn (v 10) * ks v k) := by
    unfold fcost
    rw [h10.1, tn_nI (by have := h10.2; omega), show (3 : Int32) = nI 3 from rfl, pk_mul, pk_mul]
  have hb : 3 * tn (v 10) * ks v k ≤ 60 * 1536 := Nat.mul_le_mul (by have := h10.2; omega) (by omega)
  rw [e, h2.1] at hf
  have hle := (nI_leI (by omega) (by have := h2.2; omega)).mp hf
  rw [e, h2.1, pk_sub hle]
  exact rg_nI (by have := h2.2; omega) (by decide)
section P3
variable {I : mj_I}
theorem Z_find {w : mv} (hR : RB I 5 w) (hI : IV w) {x : Int32} : mj_R D_X0_find [.inr (some 5), .inl x] (mj_w I) (mj_ex (some (.inr (if isV w x = true then some (5 + 7 + tn x) else none))) I) :=
  C_X0_find (x := x) mj_B5 (fun k hk => (hR.2.2.2.2 k hk).1) (fun k hk => hI.b01 hk)
theorem Z_find_n {w : mv} (hR : RB I 5 w) (hI : IV w) {x : Int32} (h : isV w x = false) : mj_R D_X0_find [.inr (some 5), .inl x] (mj_w I) (mj_ex (some (.inr none)) I) := by
  have g := Z_find hR hI (x := x)
  rw [h, if_neg (by decide)] at g
  exact g
theorem Z_find_y {w : mv} (hR : RB I 5 w) (hI : IV w) {k : Nat} (hk : k < 8) (he : vk w k 4 = 1) : mj_R D_X0_find [.inr (some 5), .inl (nI k)] (mj_w I) (mj_ex (some (.inr (some (5 + 7 + k)))) I) := C_X0_find_y mj_B5 hR hI hk he
theorem isV_y {w : mv} (hI : IV w) {x : Int32} (h : isV w x = true) : ∃ k, x = nI k ∧ k < 8 ∧ vk w k 4 = 1 ∧ k < tn (w 1) ∧ (vk w k 5 = 0 ∨ vk w k 5 = 1) := by
  obtain ⟨a, b, c, d⟩ := isV_e hI h
  exact ⟨tn x, a, b, c, d, rg_01 (hI.wv b c).2.2.2.2.2.2.2.2.2.1⟩
theorem vw_sh {k : Nat} (hk : k < 8) : mj_sh (5 + 7 + k) = (8, 11) := mj_B5.2.2.2.2.2.2.2.1 k hk
theorem Y_isV {w : mv} (hI : IV w) (hw : I 314 = w) {x : Int32} {b : Bool} (h : isV w x = b) : mj_R D_X10_isView [.inr (some 313), .inl x] (mj_w I) (mj_ex (some (.inl (bi b))) I) := by
  have g := C_X10_isView (I := I) (by rw [hw]; exact hI) (x := x)
  rw [hw, h] at g
  exact g
/-! pay -/
theorem X9_pay_no {w : mv} (hR : RB I 5 w) (hI : IV w) {a c : Int32} (h : ¬ (isV w a = true ∧ (1 ≤ c ∧ c ≤ 999))) : mj_R D_X9_pay [.inr (some 0), .inl a, .inl c] (mj_w I) (mj_ex (some (.inl (-100000001))) I) := by
  have m0 := s_0
  have m4 := mj_S4.1
  have m5 := mj_B5.1
  refine mj_enter (by decide +kernel) (Nat.le_of_ble_eq_true rfl) ?_
  cases hv : isV w a
  · refine J_ald S_X9_pay rfl rfl ?_
    refine J_getR S_X9_pay rfl (o' := 4) (by assumption) (by omega) rfl ?_
    refine J_getR S_X9_pay rfl (o' := 5) (by assumption) (by omega) rfl ?_
    refine J_ast S_X9_pay rfl rfl ?_
    refine J_ald S_X9_pay rfl rfl ?_
    refine J_ild S_X9_pay rfl rfl ?_
    refine J_CVx S_X9_pay rfl rfl (by assumption) (by omega) (by simp) (Z_find_n hR hI hv) rfl ?_
    refine J_ast S_X9_pay rfl rfl ?_
    refine J_ald S_X9_pay rfl rfl ?_
    refine J_nuN S_X9_pay rfl ?_
    refine J_C S_X9_pay rfl ?_
    refine J_retI S_X9_pay rfl ?_
    exact ⟨rfl, rfl⟩
  · obtain ⟨k, rfl, hk, he, -⟩ := isV_y hI hv
    have h3 : ¬ (1 ≤ c ∧ c ≤ 999) := fun g => h ⟨hv, g⟩
    refine J_ald S_X9_pay rfl rfl ?_
    refine J_getR S_X9_pay rfl (o' := 4) (by assumption) (by omega) rfl ?_
    refine J_getR S_X9_pay rfl (o' := 5) (by assumption) (by omega) rfl ?_
    refine J_ast S_X9_pay rfl rfl ?_
    refine J_ald S_X9_pay rfl rfl ?_
    refine J_ild S_X9_pay rfl rfl ?_
    refine J_CVx S_X9_pay rfl rfl (by assumption) (by omega) (by simp) (Z_find_y hR hI hk he) rfl ?_
    refine J_ast S_X9_pay rfl rfl ?_
    refine J_ald S_X9_pay rfl rfl ?_
    refine J_nuS S_X9_pay rfl ?_
    refine J_ild S_X9_pay rfl rfl ?_
    refine J_C S_X9_pay rfl ?_
    refine J_cmp S_X9_pay rfl (fun c22 => ?_) (fun c22 => ?_)
    · refine J_C S_X9_pay rfl ?_
      refine J_retI S_X9_pay rfl ?_
      exact ⟨rfl, rfl⟩
    · refine J_ild S_X9_pay rfl rfl ?_
      refine J_C S_X9_pay rfl ?_
      refine J_cmp S_X9_pay rfl (fun c29 => ?_) (fun c29 => ?_)
      · exact absurd ⟨Int32.not_lt.mp c22, c29⟩ h3
      · refine J_C S_X9_pay rfl ?_
        refine J_retI S_X9_pay rfl ?_
        exact ⟨rfl, rfl⟩
theorem X9_pay_ill {w : mv} (hR : RB I 5 w) (hI : IV w) {k : Nat} {c : Int32} (hk : k < 8) (he : vk w k 4 = 1) (hc : 1 ≤ c ∧ c ≤ 999) (h : vk w k 5 = 1 ∨ w 2 = 0) : mj_R D_X9_pay [.inr (some 0), .inl (nI k), .inl c] (mj_w I) (mj_ex (some (.inl (-100000002))) I) := by
  have m0 := s_0
  have m4 := mj_S4.1
  have m5 := mj_B5.1
  have mv := vw_sh hk
  have e7 : I (5 + 7 + k) 7 = vk w k 5 := ((hR.2.2.2.2 k hk).2.2 he).2.2.2.2.2.2.1
  have et : I 5 5 = w 2 := hR.2.1 1 (by decide)
  refine mj_enter (by decide +kernel) (Nat.le_of_ble_eq_true rfl) ?_
  refine J_ald S_X9_pay rfl rfl ?_
  refine J_getR S_X9_pay rfl (o' := 4) (by assumption) (by omega) rfl ?_
  refine J_getR S_X9_pay rfl (o' := 5) (by assumption) (by omega) rfl ?_
  refine J_ast S_X9_pay rfl rfl ?_
  refine J_ald S_X9_pay rfl rfl ?_
  refine J_ild S_X9_pay rfl rfl ?_
  refine J_CVx S_X9_pay rfl rfl (by assumption) (by omega) (by simp) (Z_find_y hR hI hk he) rfl ?_
  refine J_ast S_X9_pay rfl rfl ?_
  refine J_ald S_X9_pay rfl rfl ?_
  refine J_nuS S_X9_pay rfl ?_
  refine J_ild S_X9_pay rfl rfl ?_
  refine J_C S_X9_pay rfl ?_
  refine J_cmp S_X9_pay rfl (fun c22 => False.elim (Int32.not_lt.mpr hc.1 c22)) (fun c22 => ?_)
  refine J_ild S_X9_pay rfl rfl ?_
  refine J_C S_X9_pay rfl ?_
  refine J_cmp S_X9_pay rfl (fun c29 => ?_) (fun c29 => False.elim (c29 hc.2))
  refine J_ald S_X9_pay rfl rfl ?_
  refine J_getI S_X9_pay rfl (by assumption) (by omega) ?_
  rw [e7]
  refine J_if S_X9_pay rfl (fun c40 => ?_) (fun c40 => ?_)
  · refine J_C S_X9_pay rfl ?_
    refine J_retI S_X9_pay rfl ?_
    exact ⟨rfl, rfl⟩
  · refine J_ald S_X9_pay rfl rfl ?_
    refine J_getI S_X9_pay rfl (by assumption) (by omega) ?_
    rw [et]
    refine J_if S_X9_pay rfl (fun c47 => ?_) (fun c47 => ?_)
    · exact (h.elim (fun g => absurd (g.symm.trans c40) (by decide)) (fun g => absurd g c47))
    · refine J_C S_X9_pay rfl ?_
      refine J_retI S_X9_pay rfl ?_
      exact ⟨rfl, rfl⟩
theorem X9_pay_ok {w p : mv} {o n L : Nat} {f : Nat → Int32} (hc : CR I w p o n L f) {k c : Nat} (hk : k < 8) (he : vk w k 4 = 1) (hz : vk w k 5 = 0) (hc1 : 1 ≤ c) (hc2 : c ≤ 999) (ht : ¬ w 2 = 0) : mj_R D_X9_pay [.inr (some 0), .inl (nI k), .inl (nI c)] (mj_w I) (mj_px (fun r I2 => r = some (.inl (nI (pyD w k (min c (tn (w 2))) + pyA w k (min c (tn (w 2)))))) ∧ ∃ I1, RC I I1 w p o n ∧ RB I2 5 (payV w k (min c (tn (w 2)))) ∧ Fr 5 I1 I2)) := by
  have m0 := s_0
  have m4 := mj_S4.1
  have m5 := mj_B5.1
  have m52 := s_52
  have mv := vw_sh hk
  have hR := hc.1.1
  have hI := hc.1.2.1
  have e7 : I (5 + 7 + k) 7 = vk w k 5 := ((hR.2.2.2.2 k hk).2.2 he).2.2.2.2.2.2.1
  have et : I 5 5 = w 2 := hR.2.1 1 (by decide)
  have hrec := Z_rec hc
  have hpo := fun (I1 : mj_I) (hr : RC I I1 w p o n) => C_X0_payOne (I := I1) mj_B5 (RC_R hc hr).1 hI hk he hz (c := c) (by omega)
  refine mj_enter (by decide +kernel) (Nat.le_of_ble_eq_true rfl) ?_
  refine J_ald S_X9_pay rfl rfl ?_
  refine J_getR S_X9_pay rfl (o' := 4) (by assumption) (by omega) rfl ?_
  refine J_getR S_X9_pay rfl (o' := 5) (by assumption) (by omega) rfl ?_
  refine J_ast S_X9_pay rfl rfl ?_
  refine J_ald S_X9_pay rfl rfl ?_
  refine J_ild S_X9_pay rfl rfl ?_
  refine J_CVx S_X9_pay rfl rfl (by assumption) (by omega) (by simp) (Z_find_y hR hI hk he) rfl ?_
  refine J_ast S_X9_pay rfl rfl ?_
  refine J_ald S_X9_pay rfl rfl ?_
  refine J_nuS S_X9_pay rfl ?_
  refine J_ild S_X9_pay rfl rfl ?_
  refine J_C S_X9_pay rfl ?_
  refine J_cmp S_X9_pay rfl (fun c22 => False.elim (nI_nlt (show 1 ≤ c from hc1) (by omega) c22)) (fun c22 => ?_)
  refine J_ild S_X9_pay rfl rfl ?_
  refine J_C S_X9_pay rfl ?_
  refine J_cmp S_X9_pay rfl (fun c29 => ?_) (fun c29 => False.elim (c29 (nI_le (b := 999) hc2 (by decide))))
  refine J_ald S_X9_pay rfl rfl ?_
  refine J_getI S_X9_pay rfl (by assumption) (by omega) ?_
  rw [e7]
  refine J_if S_X9_pay rfl (fun c40 => False.elim (c40 hz)) (fun c40 => ?_)
  refine J_ald S_X9_pay rfl rfl ?_
  refine J_getI S_X9_pay rfl (by assumption) (by omega) ?_
  rw [et]
  refine J_if S_X9_pay rfl (fun c47 => ?_) (fun c47 => False.elim (ht c47))
  refine J_ald S_X9_pay rfl rfl ?_
  refine J_getR S_X9_pay rfl (o' := 52) (by assumption) (by omega) rfl ?_
  refine J_ald S_X9_pay rfl rfl ?_
  refine J_getR S_X9_pay rfl (o' := 4) (by assumption) (by omega) rfl ?_
  refine J_CV S_X9_pay rfl rfl (by assumption) (by omega) (by simp) (hrec) ?_
  rintro _ _ ⟨I1, rfl, rfl, hr⟩
  refine J_ald S_X9_pay rfl rfl ?_
  refine J_ald S_X9_pay rfl rfl ?_
  refine J_ild S_X9_pay rfl rfl ?_
  refine J_CV S_X9_pay rfl rfl (by assumption) (by omega) (by simp) (hpo I1 hr) ?_
  rintro _ _ ⟨I2, rfl, rfl, g1, g2, g3⟩
  refine J_retI S_X9_pay rfl ?_
  exact ⟨I2, rfl, rfl, I1, hr, g1, g2⟩
theorem X10_pay_no (hI : IV (I 314)) {a c : Int32} (h : ¬ (isV (I 314) a = true ∧ (1 ≤ c ∧ c ≤ 999))) : mj_R D_X10_pay [.inr (some 313), .inl a, .inl c] (mj_w I) (mj_ex (some (.inl (-100000001))) I) := by
  have m0 := s_313
  refine mj_enter (by decide +kernel) (Nat.le_of_ble_eq_true rfl) ?_
  cases hv : isV (I 314) a
  · refine J_ald S_X10_pay rfl rfl ?_
    refine J_ild S_X10_pay rfl rfl ?_
    refine J_CVx S_X10_pay rfl rfl (by assumption) (by omega) (by simp) (Y_isV hI rfl hv) rfl ?_
    refine J_if S_X10_pay rfl (fun c5 => ?_) (fun c5 => False.elim (c5 rfl))
    refine J_C S_X10_pay rfl ?_
    refine J_retI S_X10_pay rfl ?_
    exact ⟨rfl, rfl⟩
  · refine J_ald S_X10_pay rfl rfl ?_
    refine J_ild S_X10_pay rfl rfl ?_
    refine J_CVx S_X10_pay rfl rfl (by assumption) (by omega) (by simp) (Y_isV hI rfl hv) rfl ?_
    refine J_if S_X10_pay rfl (fun c5 => False.elim (absurd c5 (by decide))) (fun c5 => ?_)
    refine J_ild S_X10_pay rfl rfl ?_
    refine J_C S_X10_pay rfl ?_
    refine J_C S_X10_pay rfl ?_
    refine J_CSx S_X10_pay rfl rfl (by simp) (in_f (fun g => h ⟨hv, g⟩)) rfl ?_
    refine J_if S_X10_pay rfl (fun c16 => False.elim (c16 rfl)) (fun c16 => ?_)
    refine J_C S_X10_pay rfl ?_
    refine J_retI S_X10_pay rfl ?_
    exact ⟨rfl, rfl⟩
theorem X10_pay_ill (hI : IV (I 314)) {k : Nat} {c : Int32} (hk : k < 8) (he : vk (I 314) k 4 = 1) (hc : 1 ≤ c ∧ c ≤ 999) (h : vk (I 314) k 5 = 1 ∨ I 314 2 = 0) : mj_R D_X10_pay [.inr (some 313), .inl (nI k), .inl c] (mj_w I) (mj_ex (some (.inl (-100000002))) I) := by
  have m0 := s_313
  have m1 := s_314
  have hv : isV (I 314) (nI k) = true := by rw [isV_nI hk]; exact ex_t he
  have hb := C_X10_isBankrupt (I := I) hk
  refine mj_enter (by decide +kernel) (Nat.le_of_ble_eq_true rfl) ?_
  by_cases h5 : vk (I 314) k 5 = 1
  · rw [decide_eq_true h5] at hb
    refine J_ald S_X10_pay rfl rfl ?_
    refine J_ild S_X10_pay rfl rfl ?_
    refine J_CVx S_X10_pay rfl rfl (by assumption) (by omega) (by simp) (Y_isV hI rfl hv) rfl ?_
    refine J_if S_X10_pay rfl (fun c5 => False.elim (absurd c5 (by decide))) (fun c5 => ?_)
    refine J_ild S_X10_pay rfl rfl ?_
    refine J_C S_X10_pay rfl ?_
    refine J_C S_X10_pay rfl ?_
    refine J_CSx S_X10_pay rfl rfl (by simp) (in_t hc) rfl ?_
    refine J_if S_X10_pay rfl (fun c16 => ?_) (fun c16 => False.elim (absurd c16 (by decide)))
    refine J_ald S_X10_pay rfl rfl ?_
    refine J_ild S_X10_pay rfl rfl ?_
    refine J_CVx S_X10_pay rfl rfl (by assumption) (by omega) (by simp) (hb) rfl ?_
    refine J_if S_X10_pay rfl (fun c27 => ?_) (fun c27 => False.elim (absurd c27 (by decide)))
    refine J_C S_X10_pay rfl ?_
    refine J_retI S_X10_pay rfl ?_
    exact ⟨rfl, rfl⟩
  · rw [decide_eq_false h5] at hb
    have h0 := h.resolve_left h5
    refine J_ald S_X10_pay rfl rfl ?_
    refine J_ild S_X10_pay rfl rfl ?_
    refine J_CVx S_X10_pay rfl rfl (by assumption) (by omega) (by simp) (Y_isV hI rfl hv) rfl ?_
    refine J_if S_X10_pay rfl (fun c5 => False.elim (absurd c5 (by decide))) (fun c5 => ?_)
    refine J_ild S_X10_pay rfl rfl ?_
    refine J_C S_X10_pay rfl ?_
    refine J_C S_X10_pay rfl ?_
    refine J_CSx S_X10_pay rfl rfl (by simp) (in_t hc) rfl ?_
    refine J_if S_X10_pay rfl (fun c16 => ?_) (fun c16 => False.elim (absurd c16 (by decide)))
    refine J_ald S_X10_pay rfl rfl ?_
    refine J_ild S_X10_pay rfl rfl ?_
    refine J_CVx S_X10_pay rfl rfl (by assumption) (by omega) (by simp) (hb) rfl ?_
    refine J_if S_X10_pay rfl (fun c27 => False.elim (c27 rfl)) (fun c27 => ?_)
    refine J_ald S_X10_pay rfl rfl ?_
    refine J_getR S_X10_pay rfl (o' := 314) (by assumption) (by omega) rfl ?_
    refine J_C S_X10_pay rfl ?_
    refine J_iald S_X10_pay rfl (by assumption) (by omega) (j := 2) rfl (by omega) (by decide) ?_
    refine J_if S_X10_pay rfl (fun c36 => False.elim (c36 h0)) (fun c36 => ?_)
    refine J_C S_X10_pay rfl ?_
    refine J_retI S_X10_pay rfl ?_
    exact ⟨rfl, rfl⟩
theorem P_pay (h : Rl I) (a c : Int32) : PRI D_X9_pay D_X10_pay [.inl a, .inl c] I := by
  have hRl := h
  obtain ⟨o, n, L, hc, h2, h4⟩ := h
  have m0 := s_0
  have m1 := s_1
  have m2 := s_2
  have m4 := mj_S4.1
  have m5 := mj_B5.1
  have m6 : mj_sh 6 = (2, 3) := mj_B5.2.1
  have m52 := s_52
  have m294 := s_294
  have hR : RB I 5 (I 314) := hc.1.1
  have hI : IV (I 314) := hc.1.2.1
  have hZ : ZB (I 314) := hc.1.2.2.1
  have hn : n ≤ 5 := hc.2.1.2.2.2.1
  have hle : tn (I 314 0) ≤ 200 := hI.1.2
  by_cases hno : isV (I 314) a = true ∧ (1 ≤ c ∧ c ≤ 999)
  · obtain ⟨hv, hcc⟩ := hno
    obtain ⟨k, rfl, hk, he, -, h01⟩ := isV_y hI hv
    by_cases hill : vk (I 314) k 5 = 1 ∨ I 314 2 = 0
    · exact PR_no (x := -100000002) hRl (X9_pay_ill hR hI hk he hcc hill) (fun I1 hu => X10_pay_ill (by rw [hu 314 (by decide)]; exact hI) hk (by rw [hu 314 (by decide)]; exact he) hcc (by rw [hu 314 (by decide)]; exact hill))
    · have hz : vk (I 314) k 5 = 0 := h01.resolve_right (fun g => hill (Or.inl g))
      have ht : ¬ I 314 2 = 0 := fun g => hill (Or.inr g)
      obtain ⟨jc, hjc, rfl⟩ := i_rng (n := 999) (by decide) (by
        have := hcc.1
        rw [fa_le] at this ⊢
        rw [show (0 : Int32).toInt = 0 by decide]
        rw [show (1 : Int32).toInt = 1 by decide] at this
        omega) hcc.2
      have hj1 : 1 ≤ jc := (nI_leI (a := 1) (by decide) (by omega)).mp hcc.1
      refine PR_act (x := nI (pyD (I 314) k (min jc (tn (I 314 2))) + pyA (I 314) k (min jc (tn (I 314 2))))) (n := n) (w' := payV (I 314) k (min jc (tn (I 314 2)))) (w'' := payV (I 314) k (min jc (tn (I 314 2)))) h4 (R_imp (X9_pay_ok hc hk he hz hj1 hjc ht) ?_) (fun I1 hu => ?_) (fun _ _ => rfl)
      · rintro r I2 ⟨g0, I1, hr, g1, g2⟩
        have g := RC_B hc hr g1 g2 (payV_I hI hk he (Nat.min_le_right _ _)) (payV_Z hZ hz) (fun i hi => payV_h hk hi)
        exact ⟨g0, g.2, _, g.1⟩
      · have e := hu 314 (by decide)
        have g := C_X10_pay (I := I1) (n := n) (k := k) (c := jc) (by rw [e]; exact hI) (by rw [hu 313 (by decide)]; exact h2) hn hk (by rw [e]; exact he) (by rw [e]; exact hz) hj1 hjc (by rw [e]; exact ht)
        rw [e] at g
        exact g
  · exact PR_no (x := -100000001) hRl (X9_pay_no hR hI hno) (fun I1 hu => X10_pay_no (by rw [hu 314 (by decide)]; exact hI) (by rw [hu 314 (by decide)]; exact hno))
/-! payAll -/
theorem X9_payAll_ill {w : mv} (hR : RB I 5 w) (h : w 2 = 0) : mj_R D_X9_payAll [.inr (some 0)] (mj_w I) (mj_ex (some (.inl (-100000002))) I) := by
  have m0 := s_0
  have m4 := mj_S4.1
  have m5 := mj_B5.1
  have et : I 5 5 = w 2 := hR.2.1 1 (by decide)
  refine mj_enter (by decide +kernel) (Nat.le_of_ble_eq_true rfl) ?_
  refine J_ald S_X9_payAll rfl rfl ?_
  refine J_getR S_X9_payAll rfl (o' := 4) (by assumption) (by omega) rfl ?_
  refine J_getR S_X9_payAll rfl (o' := 5) (by assumption) (by omega) rfl ?_
  refine J_ast S_X9_payAll rfl rfl ?_
  refine J_ald S_X9_payAll rfl rfl ?_
  refine J_getI S_X9_payAll rfl (by assumption) (by omega) ?_
  rw [et]
  refine J_if S_X9_payAll rfl (fun c12 => False.elim (c12 h)) (fun c12 => ?_)
  refine J_C S_X9_payAll rfl ?_
  refine J_retI S_X9_payAll rfl ?_
  exact ⟨rfl, rfl⟩
theorem X9_payAll_ok {w p : mv} {o n L : Nat} {f : Nat → Int32} (hc : CR I w p o n L f) (ht : ¬ w 2 = 0) {m : Nat} {t : Nat → Nat} (h8 : ∀ i, t i < 8) (hm : m ≤ 8) (hO : OR w (tn (w 14)) (wt w) m t) : mj_R D_X9_payAll [.inr (some 0)] (mj_w I) (mj_px (fun r I2 => r = some (.inl (nI (pvN w t m))) ∧ ∃ I1, RC I I1 w p o n ∧ RB I2 5 (pvV w t m) ∧ Fr 5 I1 I2)) := by
  have m0 := s_0
  have m4 := mj_S4.1
  have m5 := mj_B5.1
  have m52 := s_52
  have et : I 5 5 = w 2 := hc.1.1.2.1 1 (by decide)
  have hrec := Z_rec hc
  have hpo := fun (I1 : mj_I) (hr : RC I I1 w p o n) => C_X0_payEvery (I := I1) mj_B5 (RC_R hc hr).1 hc.1.2.1 h8 hm hO
  refine mj_enter (by decide +kernel) (Nat.le_of_ble_eq_true rfl) ?_
  refine J_ald S_X9_payAll rfl rfl ?_
  refine J_getR S_X9_payAll rfl (o' := 4) (by assumption) (by omega) rfl ?_
  refine J_getR S_X9_payAll rfl (o' := 5) (by assumption) (by omega) rfl ?_
  refine J_ast S_X9_payAll rfl rfl ?_
  refine J_ald S_X9_payAll rfl rfl ?_
  refine J_getI S_X9_payAll rfl (by assumption) (by omega) ?_
  rw [et]
  refine J_if S_X9_payAll rfl (fun c12 => ?_) (fun c12 => False.elim (ht c12))
  refine J_ald S_X9_payAll rfl rfl ?_
  refine J_getR S_X9_payAll rfl (o' := 52) (by assumption) (by omega) rfl ?_
  refine J_ald S_X9_payAll rfl rfl ?_
  refine J_getR S_X9_payAll rfl (o' := 4) (by assumption) (by omega) rfl ?_
  refine J_CV S_X9_payAll rfl rfl (by assumption) (by omega) (by simp) (hrec) ?_
  rintro _ _ ⟨I1, rfl, rfl, hr⟩
  refine J_ald S_X9_payAll rfl rfl ?_
  refine J_CV S_X9_payAll rfl rfl (by assumption) (by omega) (by simp) (hpo I1 hr) ?_
  rintro _ _ ⟨I2, rfl, rfl, g1, g2⟩
  refine J_retI S_X9_payAll rfl ?_
  exact ⟨I2, rfl, rfl, I1, hr, g1, g2⟩
theorem X10_payAll_ill (h : I 314 2 = 0) : mj_R D_X10_payAll [.inr (some 313)] (mj_w I) (mj_ex (some (.inl (-100000002))) I) := by
  have m0 := s_313
  have m1 := s_314
  refine mj_enter (by decide +kernel) (Nat.le_of_ble_eq_true rfl) ?_
  refine J_ald S_X10_payAll rfl rfl ?_
  refine J_getR S_X10_payAll rfl (o' := 314) (by assumption) (by omega) rfl ?_
  refine J_C S_X10_payAll rfl ?_
  refine J_iald S_X10_payAll rfl (by assumption) (by omega) (j := 2) rfl (by omega) (by decide) ?_
  refine J_if S_X10_payAll rfl (fun c6 => False.elim (c6 h)) (fun c6 => ?_)
  refine J_C S_X10_payAll rfl ?_
  refine J_retI S_X10_payAll rfl ?_
  exact ⟨rfl, rfl⟩
theorem P_payAll (h : Rl I) : PRI D_X9_payAll D_X10_payAll [] I := by
  have hRl := h
  obtain ⟨o, n, L, hc, h2, h4⟩ := h
  have m0 := s_0
  have m1 := s_1
  have m2 := s_2
  have m4 := mj_S4.1
  have m5 := mj_B5.1
  have m6 : mj_sh 6 = (2, 3) := mj_B5.2.1
  have m52 := s_52
  have m294 := s_294
  have hR : RB I 5 (I 314) := hc.1.1
  have hI : IV (I 314) := hc.1.2.1
  have hZ : ZB (I 314) := hc.1.2.2.1
  have hn : n ≤ 5 := hc.2.1.2.2.2.1
  have hle : tn (I 314 0) ≤ 200 := hI.1.2
  by_cases ht : I 314 2 = 0
  · exact PR_no (x := -100000002) hRl (X9_payAll_ill hR ht) (fun I1 hu => X10_payAll_ill (by rw [hu 314 (by decide)]; exact ht))
  · obtain ⟨m, t, hm, h8, hO⟩ := OR_get (v := I 314) (tn (I 314 14))
    refine PR_act (x := nI (pvN (I 314) t m)) (n := n) (w' := pvV (I 314) t m) (w'' := pvV (I 314) t m) h4 (R_imp (X9_payAll_ok hc ht h8 hm hO) ?_) (fun I1 hu => ?_) (fun _ _ => rfl)
    · rintro r I2 ⟨g0, I1, hr, g1, g2⟩
      have g := RC_B hc hr g1 g2 (pv_I h8 hI (n := m) (fun i hi => (OR_mem hO hi).2.1) m (Nat.le_refl m)) (pvV_Z hZ (n := m) (fun i hi => (OR_mem hO hi).2.2) m (Nat.le_refl m)) (fun i hi => pvV_h h8 hi m)
      exact ⟨g0, g.2, _, g.1⟩
    · have e := hu 314 (by decide)
      have g := C_X10_payAll (I := I1) (n := n) (m := m) (t := t) (by rw [e]; exact hI) (by rw [hu 313 (by decide)]; exact h2) hn h8 hm (by rw [e]; exact hO) (by rw [e]; exact ht)
      rw [e] at g
      exact g
/-! found -/
theorem X9_found_no {w : mv} (hR : RB I 5 w) (hI : IV w) {a : Int32} (h : isV w a = false) : mj_R D_X9_found [.inr (some 0), .inl a] (mj_w I) (mj_ex (some (.inl (-100000001))) I) := by
  have m0 := s_0
  have m4 := mj_S4.1
  have m5 := mj_B5.1
  refine mj_enter (by decide +kernel) (Nat.le_of_ble_eq_true rfl) ?_
  refine J_ald S_X9_found rfl rfl ?_
  refine J_getR S_X9_found rfl (o' := 4) (by assumption) (by omega) rfl ?_
  refine J_getR S_X9_found rfl (o' := 5) (by assumption) (by omega) rfl ?_
  refine J_ast S_X9_found rfl rfl ?_
  refine J_ald S_X9_found rfl rfl ?_
  refine J_ild S_X9_found rfl rfl ?_
  refine J_CVx S_X9_found rfl rfl (by assumption) (by omega) (by simp) (Z_find_n hR hI h) rfl ?_
  refine J_ast S_X9_found rfl rfl ?_
  refine J_ald S_X9_found rfl rfl ?_
  refine J_nnN S_X9_found rfl ?_
  refine J_C S_X9_found rfl ?_
  refine J_retI S_X9_found rfl ?_
  exact ⟨rfl, rfl⟩
theorem X9_found_ill {w : mv} (hR : RB I 5 w) (hI : IV w) {k : Nat} (hk : k < 8) (he : vk w k 4 = 1) (h : vk w k 5 = 0 ∨ ¬ fcost w k ≤ w 2) : mj_R D_X9_found [.inr (some 0), .inl (nI k)] (mj_w I) (mj_ex (some (.inl (-100000002))) I) := by
  have m0 := s_0
  have m4 := mj_S4.1
  have m5 := mj_B5.1
  have mv := vw_sh hk
  have e7 : I (5 + 7 + k) 7 = vk w k 5 := ((hR.2.2.2.2 k hk).2.2 he).2.2.2.2.2.2.1
  have et : I 5 5 = w 2 := hR.2.1 1 (by decide)
  have hfc : mj_R D_X0_foundingCost [.inr (some 5), .inr (some (5 + 7 + k))] (mj_w I) (mj_ex (some (.inl (fcost w k))) I) := C_X0_foundingCost mj_B5 hR hk he
  refine mj_enter (by decide +kernel) (Nat.le_of_ble_eq_true rfl) ?_
  refine J_ald S_X9_found rfl rfl ?_
  refine J_getR S_X9_found rfl (o' := 4) (by assumption) (by omega) rfl ?_
  refine J_getR S_X9_found rfl (o' := 5) (by assumption) (by omega) rfl ?_
  refine J_ast S_X9_found rfl rfl ?_
  refine J_ald S_X9_found rfl rfl ?_
  refine J_ild S_X9_found rfl rfl ?_
  refine J_CVx S_X9_found rfl rfl (by assumption) (by omega) (by simp) (Z_find_y hR hI hk he) rfl ?_
  refine J_ast S_X9_found rfl rfl ?_
  refine J_ald S_X9_found rfl rfl ?_
  refine J_nnS S_X9_found rfl ?_
  refine J_ald S_X9_found rfl rfl ?_
  refine J_ald S_X9_found rfl rfl ?_
  refine J_CVx S_X9_found rfl rfl (by assumption) (by omega) (by simp) (hfc) rfl ?_
  refine J_ist S_X9_found rfl rfl ?_
  refine J_ald S_X9_found rfl rfl ?_
  refine J_getI S_X9_found rfl (by assumption) (by omega) ?_
  rw [e7]
  refine J_if S_X9_found rfl (fun c32 => ?_) (fun c32 => ?_)
  · refine J_C S_X9_found rfl ?_
    refine J_retI S_X9_found rfl ?_
    exact ⟨rfl, rfl⟩
  · refine J_ald S_X9_found rfl rfl ?_
    refine J_getI S_X9_found rfl (by assumption) (by omega) ?_
    refine J_ild S_X9_found rfl rfl ?_
    rw [et]
    refine J_cmp S_X9_found rfl (fun c41 => ?_) (fun c41 => ?_)
    · exact (h.elim (fun g => absurd g c32) (fun g => absurd c41 g))
    · refine J_C S_X9_found rfl ?_
      refine J_retI S_X9_found rfl ?_
      exact ⟨rfl, rfl⟩
theorem X9_found_ok {w p : mv} {o n L : Nat} {f : Nat → Int32} (hc : CR I w p o n L f) {k : Nat} (hk : k < 8) (he : vk w k 4 = 1) (hz : vk w k 5 = 1) (hf : fcost w k ≤ w 2) : mj_R D_X9_found [.inr (some 0), .inl (nI k)] (mj_w I) (mj_px (fun r I2 => r = some (.inl (fcost w k)) ∧ ∃ I1, RC I I1 w p o n ∧ RB I2 5 (foundV w k (fcost w k)) ∧ Fr 5 I1 I2)) := by
  have m0 := s_0
  have m4 := mj_S4.1
  have m5 := mj_B5.1
  have m52 := s_52
  have mv := vw_sh hk
  have hR := hc.1.1
  have hI := hc.1.2.1
  have e7 : I (5 + 7 + k) 7 = vk w k 5 := ((hR.2.2.2.2 k hk).2.2 he).2.2.2.2.2.2.1
  have et : I 5 5 = w 2 := hR.2.1 1 (by decide)
  have hfc : mj_R D_X0_foundingCost [.inr (some 5), .inr (some (5 + 7 + k))] (mj_w I) (mj_ex (some (.inl (fcost w k))) I) := C_X0_foundingCost mj_B5 hR hk he
  have hrec := Z_rec hc
  have hpo := fun (I1 : mj_I) (hr : RC I I1 w p o n) => C_X0_foundAnew (I := I1) (c := fcost w k) mj_B5 (RC_R hc hr).1 hI hc.1.2.2.1 hk he hz
  have n0 : ¬ vk w k 5 = 0 := by rw [hz]; decide
  refine mj_enter (by decide +kernel) (Nat.le_of_ble_eq_true rfl) ?_
  refine J_ald S_X9_found rfl rfl ?_
  refine J_getR S_X9_found rfl (o' := 4) (by assumption) (by omega) rfl ?_
  refine J_getR S_X9_found rfl (o' := 5) (by assumption) (by omega) rfl ?_
  refine J_ast S_X9_found rfl rfl ?_
  refine J_ald S_X9_found rfl rfl ?_
  refine J_ild S_X9_found rfl rfl ?_
  refine J_CVx S_X9_found rfl rfl (by assumption) (by omega) (by simp) (Z_find_y hR hI hk he) rfl ?_
  refine J_ast S_X9_found rfl rfl ?_
  refine J_ald S_X9_found rfl rfl ?_
  refine J_nnS S_X9_found rfl ?_
  refine J_ald S_X9_found rfl rfl ?_
  refine J_ald S_X9_found rfl rfl ?_
  refine J_CVx S_X9_found rfl rfl (by assumption) (by omega) (by simp) (hfc) rfl ?_
  refine J_ist S_X9_found rfl rfl ?_
  refine J_ald S_X9_found rfl rfl ?_
  refine J_getI S_X9_found rfl (by assumption) (by omega) ?_
  rw [e7]
  refine J_if S_X9_found rfl (fun c32 => False.elim (n0 c32)) (fun c32 => ?_)
  refine J_ald S_X9_found rfl rfl ?_
  refine J_getI S_X9_found rfl (by assumption) (by omega) ?_
  refine J_ild S_X9_found rfl rfl ?_
  rw [et]
  refine J_cmp S_X9_found rfl (fun c41 => ?_) (fun c41 => False.elim (c41 hf))
  refine J_ald S_X9_found rfl rfl ?_
  refine J_getR S_X9_found rfl (o' := 52) (by assumption) (by omega) rfl ?_
  refine J_ald S_X9_found rfl rfl ?_
  refine J_getR S_X9_found rfl (o' := 4) (by assumption) (by omega) rfl ?_
  refine J_CV S_X9_found rfl rfl (by assumption) (by omega) (by simp) (hrec) ?_
  rintro _ _ ⟨I1, rfl, rfl, hr⟩
  refine J_ald S_X9_found rfl rfl ?_
  refine J_ald S_X9_found rfl rfl ?_
  refine J_ild S_X9_found rfl rfl ?_
  refine J_CV S_X9_found rfl rfl (by assumption) (by omega) (by simp) (hpo I1 hr) ?_
  rintro _ _ ⟨I2, rfl, rfl, g1, g2⟩
  refine J_ild S_X9_found rfl rfl ?_
  refine J_retI S_X9_found rfl ?_
  exact ⟨I2, rfl, rfl, I1, hr, g1, g2⟩
theorem X10_found_no (hI : IV (I 314)) {a : Int32} (h : isV (I 314) a = false) : mj_R D_X10_found [.inr (some 313), .inl a] (mj_w I) (mj_ex (some (.inl (-100000001))) I) := by
  have m0 := s_313
  refine mj_enter (by decide +kernel) (Nat.le_of_ble_eq_true rfl) ?_
  refine J_ald S_X10_found rfl rfl ?_
  refine J_ild S_X10_found rfl rfl ?_
  refine J_CVx S_X10_found rfl rfl (by assumption) (by omega) (by simp) (Y_isV hI rfl h) rfl ?_
  refine J_if S_X10_found rfl (fun c5 => False.elim (c5 rfl)) (fun c5 => ?_)
  refine J_C S_X10_found rfl ?_
  refine J_retI S_X10_found rfl ?_
  exact ⟨rfl, rfl⟩
theorem X10_found_ill (hI : IV (I 314)) {k : Nat} (hk : k < 8) (he : vk (I 314) k 4 = 1) (h : vk (I 314) k 5 = 0 ∨ ¬ fcost (I 314) k ≤ I 314 2) : mj_R D_X10_found [.inr (some 313), .inl (nI k)] (mj_w I) (mj_px (fun r I2 => r = some (.inl (-100000002)) ∧ Ms I I2)) := by
  have m0 := s_313
  have m1 := s_314
  have hv : isV (I 314) (nI k) = true := by rw [isV_nI hk]; exact ex_t he
  have hko := C_X10_keysOf (I := I) hI (k := k) (hI.ex hk he)
  have hb := fun (J : mj_I) (e : J 314 = I 314) => (show mj_R D_X10_isBankrupt [.inr (some 313), .inl (nI k)] (mj_w J) (mj_ex (some (.inl (bi (decide (vk (I 314) k 5 = 1))))) J) from by
    have g := C_X10_isBankrupt (I := J) hk
    rw [e] at g
    exact g)
  refine mj_enter (by decide +kernel) (Nat.le_of_ble_eq_true rfl) ?_
  by_cases h5 : vk (I 314) k 5 = 1
  · have h0 : ¬ fcost (I 314) k ≤ I 314 2 := h.resolve_left (by rw [h5]; decide)
    rw [decide_eq_true h5] at hb
    refine J_ald S_X10_found rfl rfl ?_
    refine J_ild S_X10_found rfl rfl ?_
    refine J_CVx S_X10_found rfl rfl (by assumption) (by omega) (by simp) (Y_isV hI rfl hv) rfl ?_
    refine J_if S_X10_found rfl (fun c5 => ?_) (fun c5 => False.elim (absurd c5 (by decide)))
    refine J_C S_X10_found rfl ?_
    refine J_ald S_X10_found rfl rfl ?_
    refine J_getR S_X10_found rfl (o' := 314) (by assumption) (by omega) rfl ?_
    refine J_C S_X10_found rfl ?_
    refine J_iald S_X10_found rfl (by assumption) (by omega) (j := 10) rfl (by omega) (by decide) ?_
    refine J_bin S_X10_found rfl ?_
    refine J_ald S_X10_found rfl rfl ?_
    refine J_ild S_X10_found rfl rfl ?_
    refine J_CV S_X10_found rfl rfl (by assumption) (by omega) (by simp) (hko) ?_
    rintro _ _ ⟨J, rfl, rfl, g⟩
    have e := g.1 314 (by decide) (by decide) (by decide) (by decide) (by decide)
    refine J_bin S_X10_found rfl ?_
    refine J_ist S_X10_found rfl rfl ?_
    refine J_ald S_X10_found rfl rfl ?_
    refine J_ild S_X10_found rfl rfl ?_
    refine J_CVx S_X10_found rfl rfl (by assumption) (by omega) (by simp) (hb J e) rfl ?_
    refine J_if S_X10_found rfl (fun c32 => False.elim (absurd c32 (by decide))) (fun c32 => ?_)
    refine J_ald S_X10_found rfl rfl ?_
    refine J_getR S_X10_found rfl (o' := 314) (by assumption) (by omega) rfl ?_
    refine J_C S_X10_found rfl ?_
    refine J_iald S_X10_found rfl (by assumption) (by omega) (j := 2) rfl (by omega) (by decide) ?_
    refine J_ild S_X10_found rfl rfl ?_
    rw [e]
    refine J_cmp S_X10_found rfl (fun c42 => False.elim (h0 c42)) (fun c42 => ?_)
    refine J_C S_X10_found rfl ?_
    refine J_retI S_X10_found rfl ?_
    exact ⟨J, rfl, rfl, g⟩
  · rw [decide_eq_false h5] at hb
    refine J_ald S_X10_found rfl rfl ?_
    refine J_ild S_X10_found rfl rfl ?_
    refine J_CVx S_X10_found rfl rfl (by assumption) (by omega) (by simp) (Y_isV hI rfl hv) rfl ?_
    refine J_if S_X10_found rfl (fun c5 => ?_) (fun c5 => False.elim (absurd c5 (by decide)))
    refine J_C S_X10_found rfl ?_
    refine J_ald S_X10_found rfl rfl ?_
    refine J_getR S_X10_found rfl (o' := 314) (by assumption) (by omega) rfl ?_
    refine J_C S_X10_found rfl ?_
    refine J_iald S_X10_found rfl (by assumption) (by omega) (j := 10) rfl (by omega) (by decide) ?_
    refine J_bin S_X10_found rfl ?_
    refine J_ald S_X10_found rfl rfl ?_
    refine J_ild S_X10_found rfl rfl ?_
    refine J_CV S_X10_found rfl rfl (by assumption) (by omega) (by simp) (hko) ?_
    rintro _ _ ⟨J, rfl, rfl, g⟩
    have e := g.1 314 (by decide) (by decide) (by decide) (by decide) (by decide)
    refine J_bin S_X10_found rfl ?_
    refine J_ist S_X10_found rfl rfl ?_
    refine J_ald S_X10_found rfl rfl ?_
    refine J_ild S_X10_found rfl rfl ?_
    refine J_CVx S_X10_found rfl rfl (by assumption) (by omega) (by simp) (hb J e) rfl ?_
    refine J_if S_X10_found rfl (fun c32 => ?_) (fun c32 => False.elim (c32 rfl))
    refine J_C S_X10_found rfl ?_
    refine J_retI S_X10_found rfl ?_
    exact ⟨J, rfl, rfl, g⟩
theorem P_found (h : Rl I) (a : Int32) : PRI D_X9_found D_X10_found [.inl a] I := by
  have hRl := h
  obtain ⟨o, n, L, hc, h2, h4⟩ := h
  have m0 := s_0
  have m1 := s_1
  have m2 := s_2
  have m4 := mj_S4.1
  have m5 := mj_B5.1
  have m6 : mj_sh 6 = (2, 3) := mj_B5.2.1
  have m52 := s_52
  have m294 := s_294
  have hR : RB I 5 (I 314) := hc.1.1
  have hI : IV (I 314) := hc.1.2.1
  have hZ : ZB (I 314) := hc.1.2.2.1
  have hn : n ≤ 5 := hc.2.1.2.2.2.1
  have hle : tn (I 314 0) ≤ 200 := hI.1.2
  cases hv : isV (I 314) a
  · exact PR_no (x := -100000001) hRl (X9_found_no hR hI hv) (fun I1 hu => X10_found_no (by rw [hu 314 (by decide)]; exact hI) (by rw [hu 314 (by decide)]; exact hv))
  · obtain ⟨k, rfl, hk, he, -, h01⟩ := isV_y hI hv
    by_cases hill : vk (I 314) k 5 = 0 ∨ ¬ fcost (I 314) k ≤ I 314 2
    · exact PR_look (x := -100000002) hRl (R_ex (X9_found_ill hR hI hk he hill) ⟨rfl, sc_rf⟩) (fun I1 hu => X10_found_ill (by rw [hu 314 (by decide)]; exact hI) hk (by rw [hu 314 (by decide)]; exact he) (by rw [hu 314 (by decide)]; exact hill))
    · have hz : vk (I 314) k 5 = 1 := h01.resolve_left (fun g => hill (Or.inl g))
      have hf : fcost (I 314) k ≤ I 314 2 := Classical.byContradiction (fun g => hill (Or.inr g))
      have hrg := fc_rg hI hk he hf
      refine PR_act (x := fcost (I 314) k) (n := n) (w' := foundV (I 314) k (fcost (I 314) k)) (w'' := foundV (I 314) k (fcost (I 314) k)) h4 (R_imp (X9_found_ok hc hk he hz hf) ?_) (fun I1 hu => ?_) (fun _ _ => rfl)
      · rintro r I2 ⟨g0, I1, hr, g1, g2⟩
        have g := RC_B hc hr g1 g2 (found_I hI hk hrg he) (found_Z hZ) (fun i hi => found_o (by omega) (by omega) (by omega) (by omega) (by omega))
        exact ⟨g0, g.2, _, g.1⟩
      · have e := hu 314 (by decide)
        have g := C_X10_found (I := I1) (n := n) (k := k) (by rw [e]; exact hI) (by rw [hu 313 (by decide)]; exact h2) hn hk (by rw [e]; exact he) (by rw [e]; exact hz) (by rw [e]; exact hf)
        rw [e] at g
        exact g
end P3
