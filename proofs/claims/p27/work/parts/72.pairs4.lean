theorem IV_ext {v v' : mv} (h : IV v) (e : ∀ i, i < 687 → v' i = v i) : IV v' := by
  obtain ⟨a0, a1, a2, a3, a4, a5, a6⟩ := h
  have ek : ∀ k f, k < 8 → f < 9 → vk v' k f = vk v k f := fun k f hk hf => e _ (by omega)
  have l0 := a0.2
  have l1 := a1.2
  have e0 := e 0 (by decide)
  have e1 := e 1 (by decide)
  refine ⟨by rw [e0]; exact a0, by rw [e1]; exact a1, by rw [e 2 (by decide)]; exact a2, fun j hj => ?_, fun j hj => ?_, fun k hk => ?_, fun k g1 g2 => ?_⟩
  · rw [e _ (by omega)]; exact a3 j hj
  · rw [e0] at hj
    rw [e _ (by omega), e _ (by omega), e _ (by omega)]
    exact a4 j hj
  · rw [e1] at hk
    have hk8 : k < 8 := by omega
    obtain ⟨w1, w2, w3, w4, w5, w6, w7, w8, w9, w10, w11, w12, w13⟩ := a5 k hk
    unfold WV
    rw [ek k 0 hk8 (by decide), ek k 1 hk8 (by decide), ek k 2 hk8 (by decide), ek k 3 hk8 (by decide), ek k 4 hk8 (by decide), ek k 5 hk8 (by decide), ek k 6 hk8 (by decide), ek k 7 hk8 (by decide), e0]
    refine ⟨w1, w2, w3, w4, w5, w6, w7, w8, fun q1 q2 => ?_, w10, w11, w12, w13⟩
    obtain ⟨b1, b2⟩ := w7 q2
    rw [ek _ 4 (by omega) (by decide), ek _ 4 (by omega) (by decide)]
    exact w9 q1 q2
  · rw [e1] at g1
    rw [ek k 4 g2 (by decide)]
    exact a6 k g1 g2
theorem ZB_ext {v v' : mv} (h : ZB v) (e : ∀ i, i < 687 → v' i = v i) : ZB v' := by
  have ek : ∀ k f, k < 8 → f < 9 → vk v' k f = vk v k f := fun k f hk hf => e _ (by omega)
  intro k hk q4 q5
  rw [ek k 4 hk (by decide)] at q4
  rw [ek k 5 hk (by decide)] at q5
  rw [ek k 7 hk (by decide)]
  exact h k hk q4 q5
theorem anyB_f {p : Nat → Bool} : ∀ n, anyB p n = false → ∀ i, i < n → p i = false
  | 0, _, i, h => absurd h (Nat.not_lt_zero i)
  | n + 1, h, i, hi => by
    rw [anyB] at h
    rw [Bool.or_eq_false_iff] at h
    by_cases c : i = n
    · rw [c]; exact h.2
    · exact anyB_f n h.1 i (by omega)
theorem anyB_t {p : Nat → Bool} : ∀ n, anyB p n = true → ∃ i, i < n ∧ p i = true
  | 0, h => by cases h
  | n + 1, h => by
    rw [anyB, Bool.or_eq_true] at h
    rcases h with h | h
    · obtain ⟨i, hi, e⟩ := anyB_t n h
      exact ⟨i, by omega, e⟩
    · exact ⟨n, by omega, h⟩
theorem bits8 : ∀ a b c d e f g h : Bool, ∀ p : Nat → Bool, p 0 = a → p 1 = b → p 2 = c → p 3 = d → p 4 = e → p 5 = f → p 6 = g → p 7 = h → bcF (nI (msk p 8)) = nI ((if a = true then 1 else 0) + (if b = true then 1 else 0) + (if c = true then 1 else 0) + (if d = true then 1 else 0) + (if e = true then 1 else 0) + (if f = true then 1 else 0) + (if g = true then 1 else 0) + (if h = true then 1 else 0)) := by
  intro a b c d e f g h p h0 h1 h2 h3 h4 h5 h6 h7
  rw [bc_256 _ (msk_lt p 8)]
  simp only [msk, h0, h1, h2, h3, h4, h5, h6, h7]
  clear h0 h1 h2 h3 h4 h5 h6 h7 p
  revert a b c d e f g h
  decide +kernel
theorem bc_nV {v : mv} (hI : IV v) : bcF (nI (msk (fun k => ex v k && bel v 0 k) 8)) = nI (nV v (tn (v 1))) := by
  rw [bits8 (ex v 0) (ex v 1) (ex v 2) (ex v 3) (ex v 4) (ex v 5) (ex v 6) (ex v 7) (fun k => ex v k && bel v 0 k) (Bool.and_true _) (Bool.and_true _) (Bool.and_true _) (Bool.and_true _) (Bool.and_true _) (Bool.and_true _) (Bool.and_true _) (Bool.and_true _)]
  have h8 : ∀ m, tn (v 1) + m ≤ 8 → nV v (tn (v 1) + m) = nV v (tn (v 1)) := by
    intro m
    induction m with
    | zero => intro _; rfl
    | succ m ih =>
      intro hm
      rw [← Nat.add_assoc, nV, ex_f (hI.2.2.2.2.2.2 (tn (v 1) + m) (by omega) (by omega)), ih (by omega)]
      rfl
  have h := h8 (8 - tn (v 1)) (by have := hI.2.1.2; omega)
  rw [show tn (v 1) + (8 - tn (v 1)) = 8 by have := hI.2.1.2; omega] at h
  rw [← h]
  simp only [nV, Nat.zero_add]
section P4
variable {I : mj_I}
/-! drop -/
theorem X9_drop_no {w : mv} (hR : RB I 5 w) (hI : IV w) {a : Int32} (h : isV w a = false) : mj_R D_X9_drop [.inr (some 0), .inl a] (mj_w I) (mj_ex (some (.inl (-100000001))) I) := by
  have m0 := s_0
  have m4 := mj_S4.1
  have m5 := mj_B5.1
  refine mj_enter (by decide +kernel) (Nat.le_of_ble_eq_true rfl) ?_
  refine J_ald S_X9_drop rfl rfl ?_
  refine J_getR S_X9_drop rfl (o' := 4) (by assumption) (by omega) rfl ?_
  refine J_getR S_X9_drop rfl (o' := 5) (by assumption) (by omega) rfl ?_
  refine J_ast S_X9_drop rfl rfl ?_
  refine J_ald S_X9_drop rfl rfl ?_
  refine J_ild S_X9_drop rfl rfl ?_
  refine J_CVx S_X9_drop rfl rfl (by assumption) (by omega) (by simp) (Z_find_n hR hI h) rfl ?_
  refine J_ast S_X9_drop rfl rfl ?_
  refine J_ald S_X9_drop rfl rfl ?_
  refine J_nnN S_X9_drop rfl ?_
  refine J_C S_X9_drop rfl ?_
  refine J_retI S_X9_drop rfl ?_
  exact ⟨rfl, rfl⟩
theorem X9_drop_ill {w : mv} (hR : RB I 5 w) (hI : IV w) {k : Nat} (hk : k < 8) (he : vk w k 4 = 1) (h : anyB (made w (nI k)) 8 = true) : mj_R D_X9_drop [.inr (some 0), .inl (nI k)] (mj_w I) (mj_ex (some (.inl (-100000002))) I) := by
  have m0 := s_0
  have m4 := mj_S4.1
  have m5 := mj_B5.1
  have hp := C_X0_isPart (I := I) mj_B5 hR hI (x := nI k)
  rw [h] at hp
  refine mj_enter (by decide +kernel) (Nat.le_of_ble_eq_true rfl) ?_
  refine J_ald S_X9_drop rfl rfl ?_
  refine J_getR S_X9_drop rfl (o' := 4) (by assumption) (by omega) rfl ?_
  refine J_getR S_X9_drop rfl (o' := 5) (by assumption) (by omega) rfl ?_
  refine J_ast S_X9_drop rfl rfl ?_
  refine J_ald S_X9_drop rfl rfl ?_
  refine J_ild S_X9_drop rfl rfl ?_
  refine J_CVx S_X9_drop rfl rfl (by assumption) (by omega) (by simp) (Z_find_y hR hI hk he) rfl ?_
  refine J_ast S_X9_drop rfl rfl ?_
  refine J_ald S_X9_drop rfl rfl ?_
  refine J_nnS S_X9_drop rfl ?_
  refine J_ald S_X9_drop rfl rfl ?_
  refine J_ild S_X9_drop rfl rfl ?_
  refine J_CVx S_X9_drop rfl rfl (by assumption) (by omega) (by simp) (hp) rfl ?_
  refine J_if S_X9_drop rfl (fun c26 => False.elim (absurd c26 (by decide))) (fun c26 => ?_)
  refine J_C S_X9_drop rfl ?_
  refine J_retI S_X9_drop rfl ?_
  exact ⟨rfl, rfl⟩
theorem X9_drop_ok {w p : mv} {o n L : Nat} {f : Nat → Int32} (hc : CR I w p o n L f) {k : Nat} (hk : k < 8) (he : vk w k 4 = 1) (h : anyB (made w (nI k)) 8 = false) : mj_R D_X9_drop [.inr (some 0), .inl (nI k)] (mj_w I) (mj_px (fun r I2 => r = some (.inl (nI (nV (dropV w k) (tn (w 1))))) ∧ ∃ I1, RC I I1 w p o n ∧ RB I2 5 (dropV w k) ∧ Fr 5 I1 I2)) := by
  have m0 := s_0
  have m4 := mj_S4.1
  have m5 := mj_B5.1
  have m52 := s_52
  have mv := vw_sh hk
  have hR := hc.1.1
  have hI := hc.1.2.1
  have hp := C_X0_isPart (I := I) mj_B5 hR hI (x := nI k)
  rw [h] at hp
  have hrec := Z_rec hc
  have hw : IV (dropV w k) := drop_I hI hk (anyB_f 8 h)
  have hset := fun (I1 : mj_I) (hr : RC I I1 w p o n) => C_X0_setOf (I := mj_up I1 (5 + 7 + k) 0 0) mj_B5 (drop_R hI (RC_R hc hr).1 hk) hw (w := 0) (by decide)
  have hbc := bc_nV hw
  rw [show tn (dropV w k 1) = tn (w 1) by rw [drop_o (by omega) (by omega)]] at hbc
  refine mj_enter (by decide +kernel) (Nat.le_of_ble_eq_true rfl) ?_
  refine J_ald S_X9_drop rfl rfl ?_
  refine J_getR S_X9_drop rfl (o' := 4) (by assumption) (by omega) rfl ?_
  refine J_getR S_X9_drop rfl (o' := 5) (by assumption) (by omega) rfl ?_
  refine J_ast S_X9_drop rfl rfl ?_
  refine J_ald S_X9_drop rfl rfl ?_
  refine J_ild S_X9_drop rfl rfl ?_
  refine J_CVx S_X9_drop rfl rfl (by assumption) (by omega) (by simp) (Z_find_y hR hI hk he) rfl ?_
  refine J_ast S_X9_drop rfl rfl ?_
  refine J_ald S_X9_drop rfl rfl ?_
  refine J_nnS S_X9_drop rfl ?_
  refine J_ald S_X9_drop rfl rfl ?_
  refine J_ild S_X9_drop rfl rfl ?_
  refine J_CVx S_X9_drop rfl rfl (by assumption) (by omega) (by simp) (hp) rfl ?_
  refine J_if S_X9_drop rfl (fun c26 => ?_) (fun c26 => False.elim (c26 rfl))
  refine J_ald S_X9_drop rfl rfl ?_
  refine J_getR S_X9_drop rfl (o' := 52) (by assumption) (by omega) rfl ?_
  refine J_ald S_X9_drop rfl rfl ?_
  refine J_getR S_X9_drop rfl (o' := 4) (by assumption) (by omega) rfl ?_
  refine J_CV S_X9_drop rfl rfl (by assumption) (by omega) (by simp) (hrec) ?_
  rintro _ _ ⟨I1, rfl, rfl, hr⟩
  refine J_ald S_X9_drop rfl rfl ?_
  refine J_C S_X9_drop rfl ?_
  refine J_putZ S_X9_drop rfl (by assumption) (by omega) (by decide) ?_
  refine J_ald S_X9_drop rfl rfl ?_
  refine J_C S_X9_drop rfl ?_
  refine J_CVx S_X9_drop rfl rfl (by assumption) (by omega) (by simp) (hset I1 hr) rfl ?_
  refine J_CSx S_X9_drop rfl rfl (by simp) (C_J6_bitCount) rfl ?_
  rw [hbc]
  refine J_retI S_X9_drop rfl ?_
  exact ⟨_, rfl, rfl, I1, hr, drop_R hI (RC_R hc hr).1 hk, fr_up fr_rf (by omega) (by omega)⟩
end P4
