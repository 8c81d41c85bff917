/-- what a slot keeps, and what it gives back -/
def takV (w : mv) (q : Nat) : mv := fun j => if j = 687 + 688 * q then 1 else if 688 + 688 * q ≤ j ∧ j < 1375 + 688 * q then w (j - (688 + 688 * q)) else w j
def resV (w : mv) (q : Nat) : mv := fun j => if j < 687 then w (688 + 688 * q + j) else w j
section M5
variable {I : mj_I}
theorem mn_cg {n : Nat} {I1 : mj_I} {w w' : mv} (h : MN n I I1 w) (e : w = w') : MN n I I1 w' := e ▸ h
theorem C_X10_take (hI : IV (I 314)) {n q : Nat} (h2 : I 313 2 = nI n) (hn : n ≤ 5) (hq : q < 2) : mj_R D_X10_take [.inr (some 313), .inl (nI q)] (mj_w I) (mj_px (fun r I' => r = some (.inl (I 314 0)) ∧ MN n I I' (takV (I 314) q))) := by
  have m0 := s_313
  have m1 := s_314
  have hno := C_X10_notes h2 hn
  have hin := in_t (I := I) (x := nI q) (lo := 0) (hi := 1) ⟨nI_pos' (by omega), nI_le (b := 1) (by omega) (by decide)⟩
  have hsl := fun J => C_X10_slotAt (I := J) (q := q)
  refine mj_enter (by decide +kernel) (Nat.le_of_ble_eq_true rfl) ?_
  have key : ∀ (s i : Nat) (I' : mj_I), i + s = 687 → MN n I I' (fun j => if j = 687 + 688 * q then 1 else if 688 + 688 * q ≤ j ∧ j < 688 + 688 * q + i then I 314 (j - (688 + 688 * q)) else I 314 j) →
      mj_J D_X10_take (mj_px (fun r I' => r = some (.inl (I 314 0)) ∧ MN n I I' (takV (I 314) q))) 28 [some (.inr (some 313)), some (.inl (nI q)), some (.inl (nI i))] [] (mj_w I') (0, 0) := by
    intro s
    induction s with
    | zero =>
      intro i I' hi hM
      obtain rfl : i = 687 := by omega
      have e0 : I' 314 0 = I 314 0 := by rw [hM.2.1]; show (if (0 : Nat) = 687 + 688 * q then _ else _) = _; rw [if_neg (by omega), if_neg (by omega)]
      refine J_ild S_X10_take rfl rfl ?_
      refine J_C S_X10_take rfl ?_
      refine J_cmp S_X10_take rfl (fun c32 => ?_) (fun c32 => False.elim (c32 (by decide)))
      refine J_ald S_X10_take rfl rfl ?_
      refine J_getR S_X10_take rfl (o' := 314) (by assumption) (by omega) rfl ?_
      refine J_C S_X10_take rfl ?_
      refine J_iald S_X10_take rfl (by assumption) (by omega) (j := 0) rfl (by omega) (by decide) ?_
      refine J_retI S_X10_take rfl ?_
      rw [e0]
      refine ⟨I', rfl, rfl, mn_cg hM (funext fun j => ?_)⟩
      unfold takV
      rw [show 688 + 688 * q + 687 = 1375 + 688 * q by omega]
    | succ s ih =>
      intro i I' hi hM
      have hi' : i < 687 := by omega
      have ei : I' 314 i = I 314 i := by rw [hM.2.1]; show (if i = 687 + 688 * q then _ else _) = _; rw [if_neg (by omega), if_neg (by omega)]
      have ex : nI (687 + 688 * q) + 1 + nI i = nI (688 + 688 * q + i) := by rw [← nI_succ, nI_add, show 687 + 688 * q + 1 + i = 688 + 688 * q + i by omega]
      have g := ih (i + 1) (mj_up I' 314 (688 + 688 * q + i) (I 314 i)) (by omega) (mn_cg (mn_up hM) (funext fun j => by
        unfold upd
        by_cases a : j = 688 + 688 * q + i
        · subst a
          rw [if_pos rfl, if_neg (by omega), if_pos (by omega)]
          congr 1
          omega
        · rw [if_neg a]
          dsimp only
          by_cases c : j = 687 + 688 * q
          · rw [if_pos c, if_pos c]
          · rw [if_neg c, if_neg c]
            by_cases d : 688 + 688 * q ≤ j ∧ j < 688 + 688 * q + i
            · rw [if_pos d, if_pos (by omega)]
            · rw [if_neg d, if_neg (by omega)]))
      refine J_ild S_X10_take rfl rfl ?_
      refine J_C S_X10_take rfl ?_
      refine J_cmp S_X10_take rfl (fun c32 => False.elim (nI_ge (b := 687) hi' (by decide) c32)) (fun c32 => ?_)
      refine J_ald S_X10_take rfl rfl ?_
      refine J_getR S_X10_take rfl (o' := 314) (by assumption) (by omega) rfl ?_
      refine J_ild S_X10_take rfl rfl ?_
      refine J_CSx S_X10_take rfl rfl (by simp) (hsl _) rfl ?_
      refine J_C S_X10_take rfl ?_
      refine J_bin S_X10_take rfl ?_
      refine J_ild S_X10_take rfl rfl ?_
      refine J_bin S_X10_take rfl ?_
      rw [ex]
      refine J_ald S_X10_take rfl rfl ?_
      refine J_getR S_X10_take rfl (o' := 314) (by assumption) (by omega) rfl ?_
      refine J_ild S_X10_take rfl rfl ?_
      refine J_iald S_X10_take rfl (by assumption) (by omega) (j := i) rfl (by omega) (by decide) ?_
      rw [ei]
      refine J_iast S_X10_take rfl (by assumption) (by omega) (j := 688 + 688 * q + i) rfl (by omega) (by decide) ?_
      refine J_inc S_X10_take rfl rfl rfl ?_
      refine J_goto S_X10_take rfl ?_
      rw [← nI_succ]
      exact g
  refine J_ild S_X10_take rfl rfl ?_
  refine J_C S_X10_take rfl ?_
  refine J_C S_X10_take rfl ?_
  refine J_CSx S_X10_take rfl rfl (by simp) (hin) rfl ?_
  refine J_if S_X10_take rfl (fun c6 => ?_) (fun c6 => False.elim (absurd c6 (by decide)))
  refine J_ald S_X10_take rfl rfl ?_
  refine J_CV S_X10_take rfl rfl (by assumption) (by omega) (by simp) (hno) ?_
  rintro _ _ ⟨I1, rfl, rfl, f1, f2, f3⟩
  refine J_ald S_X10_take rfl rfl ?_
  refine J_getR S_X10_take rfl (o' := 314) (by assumption) (by omega) rfl ?_
  refine J_ild S_X10_take rfl rfl ?_
  refine J_CSx S_X10_take rfl rfl (by simp) (hsl _) rfl ?_
  refine J_C S_X10_take rfl ?_
  refine J_iast S_X10_take rfl (by assumption) (by omega) (j := 687 + 688 * q) rfl (by omega) (by decide) ?_
  refine J_C S_X10_take rfl ?_
  refine J_ist S_X10_take rfl rfl ?_
  refine key 687 0 _ rfl (mn_cg (mn_up (mn_no f1 f2 f3)) (funext fun j => ?_))
  unfold upd
  by_cases a : j = 687 + 688 * q
  · rw [if_pos a, if_pos a]
  · rw [if_neg a, if_neg a, if_neg (by omega)]
theorem C_X10_restore (hI : IV (I 314)) {n q : Nat} (h2 : I 313 2 = nI n) (hn : n ≤ 5) (hq : q < 2) (hz : I 314 (687 + 688 * q) = 1) : mj_R D_X10_restore [.inr (some 313), .inl (nI q)] (mj_w I) (mj_px (fun r I' => r = some (.inl (I 314 (688 + 688 * q))) ∧ MN n I I' (resV (I 314) q))) := by
  have m0 := s_313
  have m1 := s_314
  have hno := C_X10_notes h2 hn
  have hin := in_t (I := I) (x := nI q) (lo := 0) (hi := 1) ⟨nI_pos' (by omega), nI_le (b := 1) (by omega) (by decide)⟩
  have hsl := fun J => C_X10_slotAt (I := J) (q := q)
  refine mj_enter (by decide +kernel) (Nat.le_of_ble_eq_true rfl) ?_
  have key : ∀ (s i : Nat) (I' : mj_I), i + s = 687 → MN n I I' (fun j => if j < i then I 314 (688 + 688 * q + j) else I 314 j) →
      mj_J D_X10_restore (mj_px (fun r I' => r = some (.inl (I 314 (688 + 688 * q))) ∧ MN n I I' (resV (I 314) q))) 33 [some (.inr (some 313)), some (.inl (nI q)), some (.inl (nI i))] [] (mj_w I') (0, 0) := by
    intro s
    induction s with
    | zero =>
      intro i I' hi hM
      obtain rfl : i = 687 := by omega
      have e0 : I' 314 0 = I 314 (688 + 688 * q) := by rw [hM.2.1]; rfl
      refine J_ild S_X10_restore rfl rfl ?_
      refine J_C S_X10_restore rfl ?_
      refine J_cmp S_X10_restore rfl (fun c37 => ?_) (fun c37 => False.elim (c37 (by decide)))
      refine J_ald S_X10_restore rfl rfl ?_
      refine J_getR S_X10_restore rfl (o' := 314) (by assumption) (by omega) rfl ?_
      refine J_C S_X10_restore rfl ?_
      refine J_iald S_X10_restore rfl (by assumption) (by omega) (j := 0) rfl (by omega) (by decide) ?_
      refine J_retI S_X10_restore rfl ?_
      rw [e0]
      exact ⟨I', rfl, rfl, hM⟩
    | succ s ih =>
      intro i I' hi hM
      have hi' : i < 687 := by omega
      have ei : I' 314 (688 + 688 * q + i) = I 314 (688 + 688 * q + i) := by rw [hM.2.1]; exact if_neg (by omega)
      have ex : nI (687 + 688 * q) + 1 + nI i = nI (688 + 688 * q + i) := by rw [← nI_succ, nI_add, show 687 + 688 * q + 1 + i = 688 + 688 * q + i by omega]
      have g := ih (i + 1) (mj_up I' 314 i (I 314 (688 + 688 * q + i))) (by omega) (mn_cg (mn_up hM) (funext fun j => by
        unfold upd
        by_cases a : j = i
        · subst a; rw [if_pos rfl, if_pos (by omega)]
        · rw [if_neg a]
          dsimp only
          by_cases c : j < i
          · rw [if_pos c, if_pos (by omega)]
          · rw [if_neg c, if_neg (by omega)]))
      refine J_ild S_X10_restore rfl rfl ?_
      refine J_C S_X10_restore rfl ?_
      refine J_cmp S_X10_restore rfl (fun c37 => False.elim (nI_ge (b := 687) hi' (by decide) c37)) (fun c37 => ?_)
      refine J_ald S_X10_restore rfl rfl ?_
      refine J_getR S_X10_restore rfl (o' := 314) (by assumption) (by omega) rfl ?_
      refine J_ild S_X10_restore rfl rfl ?_
      refine J_ald S_X10_restore rfl rfl ?_
      refine J_getR S_X10_restore rfl (o' := 314) (by assumption) (by omega) rfl ?_
      refine J_ild S_X10_restore rfl rfl ?_
      refine J_CSx S_X10_restore rfl rfl (by simp) (hsl _) rfl ?_
      refine J_C S_X10_restore rfl ?_
      refine J_bin S_X10_restore rfl ?_
      refine J_ild S_X10_restore rfl rfl ?_
      refine J_bin S_X10_restore rfl ?_
      rw [ex]
      refine J_iald S_X10_restore rfl (by assumption) (by omega) (j := 688 + 688 * q + i) rfl (by omega) (by decide) ?_
      rw [ei]
      refine J_iast S_X10_restore rfl (by assumption) (by omega) (j := i) rfl (by omega) (by decide) ?_
      refine J_inc S_X10_restore rfl rfl rfl ?_
      refine J_goto S_X10_restore rfl ?_
      rw [← nI_succ]
      exact g
  refine J_ild S_X10_restore rfl rfl ?_
  refine J_C S_X10_restore rfl ?_
  refine J_C S_X10_restore rfl ?_
  refine J_CSx S_X10_restore rfl rfl (by simp) (hin) rfl ?_
  refine J_if S_X10_restore rfl (fun c6 => ?_) (fun c6 => False.elim (absurd c6 (by decide)))
  refine J_ald S_X10_restore rfl rfl ?_
  refine J_getR S_X10_restore rfl (o' := 314) (by assumption) (by omega) rfl ?_
  refine J_ild S_X10_restore rfl rfl ?_
  refine J_CSx S_X10_restore rfl rfl (by simp) (hsl _) rfl ?_
  refine J_iald S_X10_restore rfl (by assumption) (by omega) (j := 687 + 688 * q) rfl (by omega) (by decide) ?_
  rw [hz]
  refine J_if S_X10_restore rfl (fun c21 => ?_) (fun c21 => False.elim (absurd c21 (by decide)))
  refine J_ald S_X10_restore rfl rfl ?_
  refine J_CV S_X10_restore rfl rfl (by assumption) (by omega) (by simp) (hno) ?_
  rintro _ _ ⟨I1, rfl, rfl, f1, f2, f3⟩
  refine J_C S_X10_restore rfl ?_
  refine J_ist S_X10_restore rfl rfl ?_
  exact key 687 0 _ rfl (mn_cg (mn_no f1 f2 f3) (funext fun j => (if_neg (Nat.not_lt_zero j)).symm))
end M5
