section No
variable {I : mj_I}
theorem C_X10_notes {n : Nat} (h2 : I 313 2 = nI n) (hn : n ≤ 5) : mj_R D_X10_notes [.inr (some 313)] (mj_w I) (mj_px (fun r I' => r = none ∧ (∀ q, q ≠ 313 → q ≠ 315 → I' q = I q) ∧ (∀ f, f ≠ 2 → I' 313 f = I 313 f) ∧ ∃ d m, NT n d m (I 315) (I 314) (I' 315) ∧ I' 313 2 = nI (m + 1))) := by
  have m0 := s_313
  have m1 := s_314
  have m2 := s_315
  refine mj_enter (by decide +kernel) (Nat.le_of_ble_eq_true rfl) ?_
  -- the copy of now
  have key2 : ∀ (d m s i : Nat) (p : mv) (I' : mj_I), (n < 5 ∧ d = 0 ∧ m = n ∨ n = 5 ∧ d = 1 ∧ m = 4) → i + s = 2063 → (∀ q, q ≠ 313 → q ≠ 315 → I' q = I q) → (∀ f, f ≠ 2 → I' 313 f = I 313 f) → I' 313 2 = nI m → (∀ a, a < m → ∀ j, j < 2063 → p (2063 * a + j) = I 315 (2063 * (a + d) + j)) → (∀ j, j < 2063 * m → I' 315 j = p j) → (∀ j, j < i → I' 315 (2063 * m + j) = I 314 j) →
      mj_J D_X10_notes (mj_px (fun r I' => r = none ∧ (∀ q, q ≠ 313 → q ≠ 315 → I' q = I q) ∧ (∀ f, f ≠ 2 → I' 313 f = I 313 f) ∧ ∃ d m, NT n d m (I 315) (I 314) (I' 315) ∧ I' 313 2 = nI (m + 1))) 51 [some (.inr (some 313)), some (.inl (nI i))] [] (mj_w I') (0, 0) := by
    intro d m s
    induction s with
    | zero =>
      intro i p I' hdm hi hF hG hM hA hP hC
      obtain rfl : i = 2063 := by omega
      refine J_ild S_X10_notes rfl rfl ?_
      refine J_C S_X10_notes rfl ?_
      refine J_cmp S_X10_notes rfl (fun c55 => ?_) (fun c55 => False.elim (c55 (by decide)))
      refine J_ald S_X10_notes rfl rfl ?_
      refine J_dup S_X10_notes rfl ?_
      refine J_getI S_X10_notes rfl (by assumption) (by omega) ?_
      rw [hM]
      refine J_C S_X10_notes rfl ?_
      refine J_bin S_X10_notes rfl ?_
      refine J_putI S_X10_notes rfl (by assumption) (by omega) ?_
      refine J_retV S_X10_notes rfl ?_
      rw [← nI_succ]
      refine ⟨_, rfl, rfl, fun q g1 g2 => by rw [mj_up_ne g1]; exact hF q g1 g2, fun f hf => by rw [mj_up_eq, up_n hf]; exact hG f hf, d, m, ⟨hdm, fun a ha j hj => ?_, fun j hj => ?_⟩, by rw [mj_up_eq, up_s]⟩
      · rw [mj_up_ne (by decide), hP _ (by omega)]; exact hA a ha j hj
      · rw [mj_up_ne (by decide)]; exact hC j hj
    | succ s ih =>
      intro i p I' hdm hi hF hG hM hA hP hC
      have hi' : i < 2063 := by omega
      have e : nI 2063 * nI m + nI i = nI (2063 * m + i) := by rw [pk_mul, nI_add]
      have g := ih (i + 1) p (mj_up I' 315 (2063 * m + i) (I 314 i)) hdm (by omega) (fun q g1 g2 => by rw [mj_up_ne g2]; exact hF q g1 g2) (fun f hf => by rw [mj_up_ne (by decide)]; exact hG f hf) (by rw [mj_up_ne (by decide)]; exact hM) hA (fun j hj => by rw [mj_up_eq, up_n (by omega)]; exact hP j hj) (fun j hj => by
        rw [mj_up_eq]
        by_cases c : j = i
        · rw [c, up_s]
        · rw [up_n (by omega)]; exact hC j (by omega))
      have e314 : I' 314 i = I 314 i := by rw [hF 314 (by decide) (by decide)]
      refine J_ild S_X10_notes rfl rfl ?_
      refine J_C S_X10_notes rfl ?_
      refine J_cmp S_X10_notes rfl (fun c55 => False.elim (nI_ge (b := 2063) hi' (by decide) c55)) (fun c55 => ?_)
      refine J_ald S_X10_notes rfl rfl ?_
      refine J_getR S_X10_notes rfl (o' := 315) (by assumption) (by omega) rfl ?_
      refine J_C S_X10_notes rfl ?_
      refine J_ald S_X10_notes rfl rfl ?_
      refine J_getI S_X10_notes rfl (by assumption) (by omega) ?_
      rw [hM]
      refine J_bin S_X10_notes rfl ?_
      refine J_ild S_X10_notes rfl rfl ?_
      refine J_bin S_X10_notes rfl ?_
      rw [show (2063 : Int32) * nI m + nI i = nI (2063 * m + i) from e]
      refine J_ald S_X10_notes rfl rfl ?_
      refine J_getR S_X10_notes rfl (o' := 314) (by assumption) (by omega) rfl ?_
      refine J_ild S_X10_notes rfl rfl ?_
      refine J_iald S_X10_notes rfl (by assumption) (by omega) (j := i) rfl (by omega) (by decide) ?_
      rw [e314]
      refine J_iast S_X10_notes rfl (by assumption) (by omega) (j := 2063 * m + i) rfl (by omega) (by decide) ?_
      refine J_inc S_X10_notes rfl rfl rfl ?_
      refine J_goto S_X10_notes rfl ?_
      rw [← nI_succ]
      exact g
  -- the shift
  have key1 : ∀ (s i : Nat) (I' : mj_I), n = 5 → i + s = 8252 → (∀ q, q ≠ 315 → I' q = I q) → (∀ j, j < i → I' 315 j = I 315 (j + 2063)) → (∀ j, i ≤ j → I' 315 j = I 315 j) →
      mj_J D_X10_notes (mj_px (fun r I' => r = none ∧ (∀ q, q ≠ 313 → q ≠ 315 → I' q = I q) ∧ (∀ f, f ≠ 2 → I' 313 f = I 313 f) ∧ ∃ d m, NT n d m (I 315) (I 314) (I' 315) ∧ I' 313 2 = nI (m + 1))) 10 [some (.inr (some 313)), some (.inl (nI i))] [] (mj_w I') (0, 0) := by
    intro s
    induction s with
    | zero =>
      intro i I' h5 hi hF hA hB
      obtain rfl : i = 8252 := by omega
      subst h5
      have e2 : I' 313 2 = nI 5 := by rw [hF 313 (by decide)]; exact h2
      have g := key2 1 4 2063 0 (I' 315) (mj_up I' 313 2 (nI 4)) (Or.inr ⟨rfl, rfl, rfl⟩) rfl (fun q g1 g2 => by rw [mj_up_ne g1]; exact hF q g2) (fun f hf => by rw [mj_up_eq, up_n hf, hF 313 (by decide)]) (by rw [mj_up_eq, up_s]) (fun a ha j hj => by rw [hA _ (by omega)]; congr 1; omega) (fun j hj => by rw [mj_up_ne (by decide)]) (fun j hj => absurd hj (Nat.not_lt_zero j))
      refine J_ild S_X10_notes rfl rfl ?_
      refine J_C S_X10_notes rfl ?_
      refine J_cmp S_X10_notes rfl (fun c14 => ?_) (fun c14 => False.elim (c14 (by decide)))
      refine J_ald S_X10_notes rfl rfl ?_
      refine J_dup S_X10_notes rfl ?_
      refine J_getI S_X10_notes rfl (by assumption) (by omega) ?_
      rw [e2]
      refine J_C S_X10_notes rfl ?_
      refine J_bin S_X10_notes rfl ?_
      refine J_putI S_X10_notes rfl (by assumption) (by omega) ?_
      refine J_C S_X10_notes rfl ?_
      refine J_ist S_X10_notes rfl rfl ?_
      exact g
    | succ s ih =>
      intro i I' h5 hi hF hA hB
      have hi' : i < 8252 := by omega
      have e : nI i + 2063 = nI (i + 2063) := nI_add i 2063
      have ev : I' 315 (i + 2063) = I 315 (i + 2063) := hB _ (by omega)
      have g := ih (i + 1) (mj_up I' 315 i (I 315 (i + 2063))) h5 (by omega) (fun q g2 => by rw [mj_up_ne g2]; exact hF q g2) (fun j hj => by
        rw [mj_up_eq]
        by_cases c : j = i
        · rw [c, up_s]
        · rw [up_n c]; exact hA j (by omega)) (fun j hj => by rw [mj_up_eq, up_n (by omega)]; exact hB j (by omega))
      refine J_ild S_X10_notes rfl rfl ?_
      refine J_C S_X10_notes rfl ?_
      refine J_cmp S_X10_notes rfl (fun c14 => False.elim (nI_ge (b := 8252) hi' (by decide) c14)) (fun c14 => ?_)
      refine J_ald S_X10_notes rfl rfl ?_
      refine J_getR S_X10_notes rfl (o' := 315) (by assumption) (by omega) rfl ?_
      refine J_ild S_X10_notes rfl rfl ?_
      refine J_ald S_X10_notes rfl rfl ?_
      refine J_getR S_X10_notes rfl (o' := 315) (by assumption) (by omega) rfl ?_
      refine J_ild S_X10_notes rfl rfl ?_
      refine J_C S_X10_notes rfl ?_
      refine J_bin S_X10_notes rfl ?_
      rw [e]
      refine J_iald S_X10_notes rfl (by assumption) (by omega) (j := i + 2063) rfl (by omega) (by decide) ?_
      rw [ev]
      refine J_iast S_X10_notes rfl (by assumption) (by omega) (j := i) rfl (by omega) (by decide) ?_
      refine J_inc S_X10_notes rfl rfl rfl ?_
      refine J_goto S_X10_notes rfl ?_
      rw [← nI_succ]
      exact g
  by_cases h5 : n = 5
  · have g := key1 8252 0 I h5 rfl (fun _ _ => rfl) (fun j hj => absurd hj (Nat.not_lt_zero j)) (fun _ _ => rfl)
    subst h5
    refine J_ald S_X10_notes rfl rfl ?_
    refine J_getI S_X10_notes rfl (by assumption) (by omega) ?_
    rw [h2]
    refine J_C S_X10_notes rfl ?_
    refine J_cmp S_X10_notes rfl (fun c5 => False.elim (c5 rfl)) (fun c5 => ?_)
    refine J_C S_X10_notes rfl ?_
    refine J_ist S_X10_notes rfl rfl ?_
    exact g
  · have g := key2 0 n 2063 0 (I 315) I (Or.inl ⟨by omega, rfl, rfl⟩) rfl (fun _ _ _ => rfl) (fun _ _ => rfl) h2 (fun a ha j hj => rfl) (fun _ _ => rfl) (fun j hj => absurd hj (Nat.not_lt_zero j))
    refine J_ald S_X10_notes rfl rfl ?_
    refine J_getI S_X10_notes rfl (by assumption) (by omega) ?_
    rw [h2]
    refine J_C S_X10_notes rfl ?_
    refine J_cmp S_X10_notes rfl (fun c5 => ?_) (fun c5 => False.elim (h5 ((nI_eq (b := 5) (by omega) (by decide)).mp c5)))
    refine J_C S_X10_notes rfl ?_
    refine J_ist S_X10_notes rfl rfl ?_
    exact g
theorem C_X10_undo {n : Nat} (h2 : I 313 2 = nI (n + 1)) (hn : n < 5) : mj_R D_X10_undo [.inr (some 313)] (mj_w I) (mj_px (fun r I' => r = some (.inl (nI n)) ∧ (∀ q, q ≠ 313 → q ≠ 314 → I' q = I q) ∧ (∀ f, f ≠ 2 → I' 313 f = I 313 f) ∧ I' 313 2 = nI n ∧ ∀ j, j < 2063 → I' 314 j = I 315 (2063 * n + j))) := by
  have m0 := s_313
  have m1 := s_314
  have m2 := s_315
  refine mj_enter (by decide +kernel) (Nat.le_of_ble_eq_true rfl) ?_
  have key : ∀ (s i : Nat) (I' : mj_I), i + s = 2063 → (∀ q, q ≠ 313 → q ≠ 314 → I' q = I q) → (∀ f, f ≠ 2 → I' 313 f = I 313 f) → I' 313 2 = nI n → (∀ j, j < i → I' 314 j = I 315 (2063 * n + j)) →
      mj_J D_X10_undo (mj_px (fun r I' => r = some (.inl (nI n)) ∧ (∀ q, q ≠ 313 → q ≠ 314 → I' q = I q) ∧ (∀ f, f ≠ 2 → I' 313 f = I 313 f) ∧ I' 313 2 = nI n ∧ ∀ j, j < 2063 → I' 314 j = I 315 (2063 * n + j))) 22 [some (.inr (some 313)), some (.inl (nI i))] [] (mj_w I') (0, 0) := by
    intro s
    induction s with
    | zero =>
      intro i I' hi hF hG hM hC
      obtain rfl : i = 2063 := by omega
      refine J_ild S_X10_undo rfl rfl ?_
      refine J_C S_X10_undo rfl ?_
      refine J_cmp S_X10_undo rfl (fun c26 => ?_) (fun c26 => False.elim (c26 (by decide)))
      refine J_ald S_X10_undo rfl rfl ?_
      refine J_getI S_X10_undo rfl (by assumption) (by omega) ?_
      refine J_retI S_X10_undo rfl ?_
      rw [hM]
      exact ⟨I', rfl, rfl, hF, hG, hM, hC⟩
    | succ s ih =>
      intro i I' hi hF hG hM hC
      have hi' : i < 2063 := by omega
      have e : (2063 : Int32) * nI n + nI i = nI (2063 * n + i) := by rw [show (2063 : Int32) = nI 2063 from rfl, pk_mul, nI_add]
      have ev : I' 315 (2063 * n + i) = I 315 (2063 * n + i) := by rw [hF 315 (by decide) (by decide)]
      have g := ih (i + 1) (mj_up I' 314 i (I 315 (2063 * n + i))) (by omega) (fun q g1 g2 => by rw [mj_up_ne g2]; exact hF q g1 g2) (fun f hf => by rw [mj_up_ne (by decide)]; exact hG f hf) (by rw [mj_up_ne (by decide)]; exact hM) (fun j hj => by
        rw [mj_up_eq]
        by_cases c : j = i
        · rw [c, up_s]
        · rw [up_n c]; exact hC j (by omega))
      refine J_ild S_X10_undo rfl rfl ?_
      refine J_C S_X10_undo rfl ?_
      refine J_cmp S_X10_undo rfl (fun c26 => False.elim (nI_ge (b := 2063) hi' (by decide) c26)) (fun c26 => ?_)
      refine J_ald S_X10_undo rfl rfl ?_
      refine J_getR S_X10_undo rfl (o' := 314) (by assumption) (by omega) rfl ?_
      refine J_ild S_X10_undo rfl rfl ?_
      refine J_ald S_X10_undo rfl rfl ?_
      refine J_getR S_X10_undo rfl (o' := 315) (by assumption) (by omega) rfl ?_
      refine J_C S_X10_undo rfl ?_
      refine J_ald S_X10_undo rfl rfl ?_
      refine J_getI S_X10_undo rfl (by assumption) (by omega) ?_
      rw [hM]
      refine J_bin S_X10_undo rfl ?_
      refine J_ild S_X10_undo rfl rfl ?_
      refine J_bin S_X10_undo rfl ?_
      rw [e]
      refine J_iald S_X10_undo rfl (by assumption) (by omega) (j := 2063 * n + i) rfl (by omega) (by decide) ?_
      rw [ev]
      refine J_iast S_X10_undo rfl (by assumption) (by omega) (j := i) rfl (by omega) (by decide) ?_
      refine J_inc S_X10_undo rfl rfl rfl ?_
      refine J_goto S_X10_undo rfl ?_
      rw [← nI_succ]
      exact g
  have g := key 2063 0 (mj_up I 313 2 (nI n)) rfl (fun q g1 g2 => mj_up_ne g1) (fun f hf => by rw [mj_up_eq, up_n hf]) (by rw [mj_up_eq, up_s]) (fun j hj => absurd hj (Nat.not_lt_zero j))
  refine J_ald S_X10_undo rfl rfl ?_
  refine J_getI S_X10_undo rfl (by assumption) (by omega) ?_
  rw [h2]
  refine J_if S_X10_undo rfl (fun c4 => ?_) (fun c4 => False.elim (nI_ne0 (by omega) (by omega) c4))
  refine J_ald S_X10_undo rfl rfl ?_
  refine J_dup S_X10_undo rfl ?_
  refine J_getI S_X10_undo rfl (by assumption) (by omega) ?_
  rw [h2]
  refine J_C S_X10_undo rfl ?_
  refine J_bin S_X10_undo rfl ?_
  rw [nI_pred]
  refine J_putI S_X10_undo rfl (by assumption) (by omega) ?_
  refine J_C S_X10_undo rfl ?_
  refine J_ist S_X10_undo rfl rfl ?_
  exact g
end No
