/-! a view holds -/
theorem cnt_end (p : Nat → Bool) (a : Nat) : ∀ n, cnt p a (n + 1) = cnt p a n + (if p (a + n) = true then 1 else 0) := fun n => rfl
/-- the answers stay where nothing concerns -/
theorem aq_nc {v : mv} (hI : IV v) {k : Nat} (hk : k < 8) (he : vk v k 4 = 1) : ∀ (n a : Nat), cnt (fun j => cs v k (cl v j)) a n = 0 → aq v (a + n) k = aq v a k
  | 0, a, _ => rfl
  | n + 1, a, h => by
    rw [cnt_end] at h
    have h1 : cnt (fun j => cs v k (cl v j)) a n = 0 := by omega
    have h2 : cs v k (cl v (a + n)) = false := by
      cases c : cs v k (cl v (a + n))
      · rfl
      · rw [if_pos c] at h; omega
    rw [← aq_nc hI hk he n a h1, ← Nat.add_assoc, aq_aT, aq_aT]
    refine aT_nc hI (c := cl v (a + n)) (fun i hi => ?_) hk he h2
    show tabv v i (a + n + 1) = tabv v i (a + n)
    rw [tabv, if_neg (fun q => hi q.symm)]
theorem kept_end {v : mv} (hI : IV v) {k : Nat} (hk : k < 8) (he : vk v k 4 = 1) (hz : vk v k 5 = 0) (ha : arr v k = 0) : aq v (tn (vk v k 6)) k = aq v (tn (v 0)) k := by
  have hp : tn (vk v k 6) ≤ tn (v 0) := (hI.wv hk he).2.2.2.2.2.2.2.2.2.2.1.2
  unfold arr at ha
  rw [if_neg (by rw [hz]; decide)] at ha
  have g := aq_nc hI hk he _ _ ha
  rw [show tn (vk v k 6) + (tn (v 0) - tn (vk v k 6)) = tn (v 0) by omega] at g
  exact g.symm
section Vh
variable {I : mj_I} {w : mv}
theorem G_v (h : LKS I w) {k : Nat} (hk : k < 8) (he : vk w k 4 = 1) {j : Nat} (hj : j < 10) : mj_R D_X9_view [.inr (some 0), .inl (nI k), .inl (nI j)] (mj_w I) (mj_ex (some (.inl (vwV w k j))) I) := by
  obtain ⟨hR, hI, -⟩ := LKS_IV h
  rcases (show j = 0 ∨ j = 1 ∨ j = 2 ∨ j = 3 ∨ j = 4 ∨ j = 5 ∨ j = 6 ∨ j = 7 ∨ j = 8 ∨ j = 9 by omega) with rfl | rfl | rfl | rfl | rfl | rfl | rfl | rfl | rfl | rfl
  · exact X9_view_0 hR hI hk he
  · exact X9_view_1 hR hI hk he
  · exact X9_view_2 hR hI hk he
  · exact X9_view_3 hR hI hk he
  · exact X9_view_4 hR hI hk he
  · exact X9_view_5 hR hI hk he
  · exact X9_view_6 hR hI hk he
  · exact X9_view_7 hR hI hk he
  · exact X9_view_8 hR hI hk he
  · exact X9_view_9 hR hI hk he
theorem G_ask (h : LKS I w) {k n : Nat} {c : Int32} (hk : k < 8) (he : vk w k 4 = 1) (hn : n ≤ tn (w 0)) (hc : c = 0 ∨ c = 1) : mj_R D_X9_ask [.inr (some 0), .inl (nI k), .inl (nI n), .inl c] (mj_w I) (mj_px (fun r I' => r = some (.inl (aq w n k)) ∧ SC I I')) :=
  X9_ask_ok (LKS_IV h).1 (LKS_IV h).2.1 hk he hn hc
theorem G_kept (h : LKS I w) {k : Nat} (hk : k < 8) (he : vk w k 4 = 1) (h5 : vk w k 5 = 0) : mj_R D_X9_kept [.inr (some 0), .inl (nI k)] (mj_w I) (mj_px (fun r I' => r = some (.inl (aq w (tn (vk w k 6)) k)) ∧ SC I I')) :=
  X9_kept_ok (LKS_IV h).1 (LKS_IV h).2.1 hk he h5
theorem G_since (h : LKS I w) {k : Nat} (hk : k < 8) (he : vk w k 4 = 1) : mj_R D_X9_since [.inr (some 0), .inl (nI k)] (mj_w I) (mj_px (fun r I' => r = some (.inl (nI (ltn (fun n => aq w n k) (tn (w 0))))) ∧ SC I I')) :=
  X9_since_ok (LKS_IV h).1 (LKS_IV h).2.1 hk he
/-- the price as the law has it -/
theorem price_e {v : mv} (hI : IV v) {k : Nat} (hk : k < 8) (he : vk v k 4 = 1) : prc v k = v 10 * (if 2 < vk v k 0 then 2 else 1) := by
  have h0 := (hI.wv hk he).2.1
  unfold prc
  have e : (3 ≤ vk v k 0) ↔ (2 < vk v k 0) := by
    rw [fa_le, fa_lt, show (3 : Int32).toInt = 3 by decide, show (2 : Int32).toInt = 2 by decide]
    omega
  by_cases c : 2 < vk v k 0
  · rw [if_pos c, if_pos (e.mpr c), Int32.mul_comm]
  · rw [if_neg c, if_neg (fun q => c (e.mp q)), Int32.mul_one]
/-- the last words of viewHolds, by its first answer -/
theorem T_viewHolds (h : LKS I w) {k : Nat} (hk : k < 8) (he : vk w k 4 = 1) : mj_R D_L_viewHolds [.inr (some 0), .inl (nI k)] (mj_w I) (mj_px (fun r I1 => r = some (.inl 1) ∧ SC I I1)) := by
  have m0 := s_0
  obtain ⟨hR, hI, hZ⟩ := LKS_IV h
  have hv := fun (j : Nat) (hj : j < 10) => G_v h hk he hj
  have hw := hI.wv hk he
  have h0 := G_c0 h
  have h18 := G_c18 h
  have n0 := hI.1
  have hp : tn (vk w k 6) ≤ tn (w 0) := hw.2.2.2.2.2.2.2.2.2.2.1.2
  have e6 : vk w k 6 = nI (tn (vk w k 6)) := hw.2.2.2.2.2.2.2.2.2.2.1.1
  have e7 : rg (vk w k 7) 500 := hw.2.2.2.2.2.2.2.2.2.2.2.1
  have l0 : ¬ nI (tn (w 0)) < 0 := nI_pos (tn_lt _)
  have a0 : arr w k ≤ tn (w 0) := arr_le w k
  have lim := n0.2
  -- the count of the arrears
  have loop : ∀ (post : Option mj_V → mj_M → Prop) (x2 x3 x4 : mj_V) (st : Nat), st ≤ tn (w 0) → (mj_J D_L_viewHolds post 91 [some (.inr (some 0)), some (.inl (nI k)), some x2, some x3, some x4, some (.inl (nI (tn (w 0)))), some (.inl (nI (cnt (fun j => cs w k (cl w j)) st (tn (w 0) - st)))), some (.inl (nI (tn (w 0)))), none] [] (mj_w I) (0, 0)) → ∀ (s i : Nat), st + i + s = tn (w 0) → mj_J D_L_viewHolds post 54 [some (.inr (some 0)), some (.inl (nI k)), some x2, some x3, some x4, some (.inl (nI (tn (w 0)))), some (.inl (nI (cnt (fun j => cs w k (cl w j)) st i))), some (.inl (nI (st + i))), none] [] (mj_w I) (0, 0) := by
    intro post x2 x3 x4 st hst hend s
    induction s with
    | zero =>
      intro i hi
      have e : i = tn (w 0) - st := by omega
      subst e
      rw [show st + (tn (w 0) - st) = tn (w 0) by omega]
      refine J_ild S_L_viewHolds rfl rfl ?_
      refine J_ild S_L_viewHolds rfl rfl ?_
      refine J_cmp S_L_viewHolds rfl (fun c58 => ?_) (fun c58 => False.elim (c58 (Int32.le_refl _)))
      exact hend
    | succ s ih =>
      intro i hi
      have hj : st + i < tn (w 0) := by omega
      have hc := X9_change_ok hR hI hj (b := 3) (by decide)
      have hx : chV w (st + i) 3 = nI (msk (fun q => ex w q && cs w q (cl w (st + i))) 8) := by unfold chV; rw [if_pos rfl]
      rw [hx] at hc
      have hm : msk (fun q => ex w q && cs w q (cl w (st + i))) 8 < 2 ^ 31 := Nat.lt_trans (msk_lt _ 8) (by decide)
      have hh := C_L_has (I := I) hm (i := k) (by omega)
      rw [msk_bit, decide_eq_true hk, Bool.true_and, ex_t he, Bool.true_and] at hh
      have hn := ih (i + 1) (by omega)
      rw [cnt_end] at hn
      cases cc : cs w k (cl w (st + i))
      · rw [cc] at hh hn
        rw [if_neg (by decide), Nat.add_zero, ← Nat.add_assoc] at hn
        refine J_ild S_L_viewHolds rfl rfl ?_
        refine J_ild S_L_viewHolds rfl rfl ?_
        refine J_cmp S_L_viewHolds rfl (fun c58 => False.elim (nI_ge hj (tn_lt _) c58)) (fun c58 => ?_)
        refine J_ild S_L_viewHolds rfl rfl ?_
        refine J_ald S_L_viewHolds rfl rfl ?_
        refine J_ild S_L_viewHolds rfl rfl ?_
        refine J_C S_L_viewHolds rfl ?_
        refine J_CVx S_L_viewHolds rfl rfl (by assumption) (by omega) (by simp) (hc) rfl ?_
        refine J_ild S_L_viewHolds rfl rfl ?_
        refine J_CSx S_L_viewHolds rfl rfl (by simp) (hh) rfl ?_
        refine J_if S_L_viewHolds rfl (fun c74 => ?_) (fun c74 => False.elim (c74 rfl))
        refine J_C S_L_viewHolds rfl ?_
        refine J_bin S_L_viewHolds rfl ?_
        refine J_ist S_L_viewHolds rfl rfl ?_
        refine J_inc S_L_viewHolds rfl rfl rfl ?_
        refine J_goto S_L_viewHolds rfl ?_
        rw [Int32.add_zero, show nI (st + i) + 1 = nI (st + i + 1) from nI_add _ 1]
        exact hn
      · rw [cc] at hh hn
        rw [if_pos rfl, ← Nat.add_assoc] at hn
        refine J_ild S_L_viewHolds rfl rfl ?_
        refine J_ild S_L_viewHolds rfl rfl ?_
        refine J_cmp S_L_viewHolds rfl (fun c58 => False.elim (nI_ge hj (tn_lt _) c58)) (fun c58 => ?_)
        refine J_ild S_L_viewHolds rfl rfl ?_
        refine J_ald S_L_viewHolds rfl rfl ?_
        refine J_ild S_L_viewHolds rfl rfl ?_
        refine J_C S_L_viewHolds rfl ?_
        refine J_CVx S_L_viewHolds rfl rfl (by assumption) (by omega) (by simp) (hc) rfl ?_
        refine J_ild S_L_viewHolds rfl rfl ?_
        refine J_CSx S_L_viewHolds rfl rfl (by simp) (hh) rfl ?_
        refine J_if S_L_viewHolds rfl (fun c74 => False.elim (absurd c74 (by decide))) (fun c74 => ?_)
        refine J_C S_L_viewHolds rfl ?_
        refine J_goto S_L_viewHolds rfl ?_
        refine J_bin S_L_viewHolds rfl ?_
        refine J_ist S_L_viewHolds rfl rfl ?_
        refine J_inc S_L_viewHolds rfl rfl rfl ?_
        refine J_goto S_L_viewHolds rfl ?_
        rw [show nI (cnt (fun j => cs w k (cl w j)) st i) + 1 = nI (cnt (fun j => cs w k (cl w j)) st i + 1) from nI_add _ 1, show nI (st + i) + 1 = nI (st + i + 1) from nI_add _ 1]
        exact hn
  have v0 := hv 0 (by decide)
  have v1 := hv 1 (by decide)
  have v4 := hv 4 (by decide)
  have v5 := hv 5 (by decide)
  have v6 := hv 6 (by decide)
  have v7 := hv 7 (by decide)
  have v8 := hv 8 (by decide)
  have q0 : vwV w k 0 = vk w k 0 := rfl
  have q1 : vwV w k 1 = if 3 ≤ vk w k 0 then -100000009 else vk w k 1 := rfl
  have q4 : vwV w k 4 = vk w k 5 := rfl
  have q5 : vwV w k 5 = if vk w k 5 = 1 then -100000009 else vk w k 6 := rfl
  have q6 : vwV w k 6 = nI (arr w k) := rfl
  have q7 : vwV w k 7 = vk w k 7 := rfl
  have q8 : vwV w k 8 = need w k := rfl
  rw [q0] at v0
  rw [q1] at v1
  rw [q4] at v4
  rw [q5] at v5
  rw [q6] at v6
  rw [q7] at v7
  rw [q8] at v8
  rw [n0.1] at h0
  have pe := price_e hI hk he
  have ne : need w k = vk w k 7 + w 10 * (if 2 < vk w k 0 then 2 else 1) * nI (arr w k) := by
    unfold need
    rw [pe, Int32.mul_comm (nI (arr w k))]
  have nn : ¬ vk w k 7 < 0 := by rw [e7.1]; exact nI_pos (tn_lt _)
  have k3 : (3 ≤ vk w k 0) ∨ vk w k 0 < 3 := by
    by_cases c : 3 ≤ vk w k 0
    · exact Or.inl c
    · exact Or.inr (Int32.not_le.mp c)
  have tb0 : ¬ vk w k 1 < 0 := by rw [hw.2.2.1.1]; exact nI_pos (tn_lt _)
  -- from the count on
  have mid : ∀ (post : Option mj_V → mj_M → Prop) (x2 x4 : mj_V), mj_J D_L_viewHolds post 189 [some (.inr (some 0)), some (.inl (nI k)), some x2, some (.inl (vk w k 0)), some x4, some (.inl (nI (tn (w 0)))), some (.inl (nI (arr w k))), some (.inl (w 10 * (if 2 < vk w k 0 then 2 else 1))), some (.inl 1)] [] (mj_w I) (0, 0) → mj_J D_L_viewHolds post 91 [some (.inr (some 0)), some (.inl (nI k)), some x2, some (.inl (vk w k 0)), some x4, some (.inl (nI (tn (w 0)))), some (.inl (nI (arr w k))), some (.inl (nI (tn (w 0)))), none] [] (mj_w I) (0, 0) := by
    intro post x2 x4 hk'
    rw [ne] at v8
    have key : mj_J D_L_viewHolds post 108 [some (.inr (some 0)), some (.inl (nI k)), some x2, some (.inl (vk w k 0)), some x4, some (.inl (nI (tn (w 0)))), some (.inl (nI (arr w k))), some (.inl (nI (tn (w 0)))), none] [.inl (w 10 * (if 2 < vk w k 0 then 2 else 1))] (mj_w I) (0, 0) := by
      rcases k3 with c | c
      · rw [if_pos c] at v1
        refine J_ist S_L_viewHolds rfl rfl ?_
        refine J_ald S_L_viewHolds rfl rfl ?_
        refine J_ild S_L_viewHolds rfl rfl ?_
        refine J_C S_L_viewHolds rfl ?_
        refine J_CVx S_L_viewHolds rfl rfl (by assumption) (by omega) (by simp) (v6) rfl ?_
        refine J_ild S_L_viewHolds rfl rfl ?_
        refine J_cmp S_L_viewHolds rfl (fun c119 => False.elim (c119 rfl)) (fun c119 => ?_)
        refine J_ald S_L_viewHolds rfl rfl ?_
        refine J_ild S_L_viewHolds rfl rfl ?_
        refine J_C S_L_viewHolds rfl ?_
        refine J_CVx S_L_viewHolds rfl rfl (by assumption) (by omega) (by simp) (v8) rfl ?_
        refine J_ald S_L_viewHolds rfl rfl ?_
        refine J_ild S_L_viewHolds rfl rfl ?_
        refine J_C S_L_viewHolds rfl ?_
        refine J_CVx S_L_viewHolds rfl rfl (by assumption) (by omega) (by simp) (v7) rfl ?_
        refine J_ild S_L_viewHolds rfl rfl ?_
        refine J_ild S_L_viewHolds rfl rfl ?_
        refine J_bin S_L_viewHolds rfl ?_
        refine J_bin S_L_viewHolds rfl ?_
        refine J_cmp S_L_viewHolds rfl (fun c142 => False.elim (c142 rfl)) (fun c142 => ?_)
        refine J_ald S_L_viewHolds rfl rfl ?_
        refine J_ild S_L_viewHolds rfl rfl ?_
        refine J_C S_L_viewHolds rfl ?_
        refine J_CVx S_L_viewHolds rfl rfl (by assumption) (by omega) (by simp) (v7) rfl ?_
        refine J_if S_L_viewHolds rfl (fun c152 => False.elim (nn c152)) (fun c152 => ?_)
        refine J_ald S_L_viewHolds rfl rfl ?_
        refine J_ild S_L_viewHolds rfl rfl ?_
        refine J_C S_L_viewHolds rfl ?_
        refine J_CVx S_L_viewHolds rfl rfl (by assumption) (by omega) (by simp) (v1) rfl ?_
        refine J_if S_L_viewHolds rfl (fun c161 => ?_) (fun c161 => False.elim (c161 (by decide)))
        refine J_C S_L_viewHolds rfl ?_
        refine J_ild S_L_viewHolds rfl rfl ?_
        refine J_C S_L_viewHolds rfl ?_
        refine J_cmp S_L_viewHolds rfl (fun c171 => ?_) (fun c171 => False.elim (c171 c))
        refine J_C S_L_viewHolds rfl ?_
        refine J_cmp S_L_viewHolds rfl (fun c179 => False.elim (c179 rfl)) (fun c179 => ?_)
        refine J_C S_L_viewHolds rfl ?_
        refine J_goto S_L_viewHolds rfl ?_
        refine J_ist S_L_viewHolds rfl rfl ?_
        exact hk'
      · rw [if_neg (Int32.not_le.mpr c)] at v1
        refine J_ist S_L_viewHolds rfl rfl ?_
        refine J_ald S_L_viewHolds rfl rfl ?_
        refine J_ild S_L_viewHolds rfl rfl ?_
        refine J_C S_L_viewHolds rfl ?_
        refine J_CVx S_L_viewHolds rfl rfl (by assumption) (by omega) (by simp) (v6) rfl ?_
        refine J_ild S_L_viewHolds rfl rfl ?_
        refine J_cmp S_L_viewHolds rfl (fun c119 => False.elim (c119 rfl)) (fun c119 => ?_)
        refine J_ald S_L_viewHolds rfl rfl ?_
        refine J_ild S_L_viewHolds rfl rfl ?_
        refine J_C S_L_viewHolds rfl ?_
        refine J_CVx S_L_viewHolds rfl rfl (by assumption) (by omega) (by simp) (v8) rfl ?_
        refine J_ald S_L_viewHolds rfl rfl ?_
        refine J_ild S_L_viewHolds rfl rfl ?_
        refine J_C S_L_viewHolds rfl ?_
        refine J_CVx S_L_viewHolds rfl rfl (by assumption) (by omega) (by simp) (v7) rfl ?_
        refine J_ild S_L_viewHolds rfl rfl ?_
        refine J_ild S_L_viewHolds rfl rfl ?_
        refine J_bin S_L_viewHolds rfl ?_
        refine J_bin S_L_viewHolds rfl ?_
        refine J_cmp S_L_viewHolds rfl (fun c142 => False.elim (c142 rfl)) (fun c142 => ?_)
        refine J_ald S_L_viewHolds rfl rfl ?_
        refine J_ild S_L_viewHolds rfl rfl ?_
        refine J_C S_L_viewHolds rfl ?_
        refine J_CVx S_L_viewHolds rfl rfl (by assumption) (by omega) (by simp) (v7) rfl ?_
        refine J_if S_L_viewHolds rfl (fun c152 => False.elim (nn c152)) (fun c152 => ?_)
        refine J_ald S_L_viewHolds rfl rfl ?_
        refine J_ild S_L_viewHolds rfl rfl ?_
        refine J_C S_L_viewHolds rfl ?_
        refine J_CVx S_L_viewHolds rfl rfl (by assumption) (by omega) (by simp) (v1) rfl ?_
        refine J_if S_L_viewHolds rfl (fun c161 => False.elim (tb0 c161)) (fun c161 => ?_)
        refine J_C S_L_viewHolds rfl ?_
        refine J_goto S_L_viewHolds rfl ?_
        refine J_ild S_L_viewHolds rfl rfl ?_
        refine J_C S_L_viewHolds rfl ?_
        refine J_cmp S_L_viewHolds rfl (fun c171 => False.elim (Int32.not_le.mpr c c171)) (fun c171 => ?_)
        refine J_C S_L_viewHolds rfl ?_
        refine J_goto S_L_viewHolds rfl ?_
        refine J_cmp S_L_viewHolds rfl (fun c179 => False.elim (c179 rfl)) (fun c179 => ?_)
        refine J_C S_L_viewHolds rfl ?_
        refine J_goto S_L_viewHolds rfl ?_
        refine J_ist S_L_viewHolds rfl rfl ?_
        exact hk'
    by_cases c2 : 2 < vk w k 0
    · rw [if_pos c2] at key hk'
      refine J_ald S_L_viewHolds rfl rfl ?_
      refine J_C S_L_viewHolds rfl ?_
      refine J_CVx S_L_viewHolds rfl rfl (by assumption) (by omega) (by simp) (h18) rfl ?_
      refine J_ild S_L_viewHolds rfl rfl ?_
      refine J_C S_L_viewHolds rfl ?_
      refine J_cmp S_L_viewHolds rfl (fun c99 => False.elim (Int32.not_le.mpr c2 c99)) (fun c99 => ?_)
      refine J_C S_L_viewHolds rfl ?_
      refine J_goto S_L_viewHolds rfl ?_
      refine J_bin S_L_viewHolds rfl ?_
      exact key
    · rw [if_neg c2] at key hk'
      refine J_ald S_L_viewHolds rfl rfl ?_
      refine J_C S_L_viewHolds rfl ?_
      refine J_CVx S_L_viewHolds rfl rfl (by assumption) (by omega) (by simp) (h18) rfl ?_
      refine J_ild S_L_viewHolds rfl rfl ?_
      refine J_C S_L_viewHolds rfl ?_
      refine J_cmp S_L_viewHolds rfl (fun c99 => ?_) (fun c99 => False.elim (c99 (Int32.not_lt.mp c2)))
      refine J_C S_L_viewHolds rfl ?_
      refine J_bin S_L_viewHolds rfl ?_
      exact key
  refine mj_enter (by decide +kernel) (Nat.le_of_ble_eq_true rfl) ?_
  rcases rg_01 hw.2.2.2.2.2.2.2.2.2.1 with h5 | h5
  · -- it stands at its place
    rw [h5] at v4
    rw [if_neg (by rw [h5]; decide), e6] at v5
    have ar : arr w k = cnt (fun j => cs w k (cl w j)) (tn (vk w k 6)) (tn (w 0) - tn (vk w k 6)) := by
      unfold arr
      rw [if_neg (by rw [h5]; decide)]
    have fin : mj_J D_L_viewHolds (mj_px (fun r I1 => r = some (.inl 1) ∧ SC I I1)) 189 [some (.inr (some 0)), some (.inl (nI k)), some (.inl 0), some (.inl (vk w k 0)), some (.inl (nI (tn (vk w k 6)))), some (.inl (nI (tn (w 0)))), some (.inl (nI (arr w k))), some (.inl (w 10 * (if 2 < vk w k 0 then 2 else 1))), some (.inl 1)] [] (mj_w I) (0, 0) := by
      have hkp := X9_kept_ok hR hI hk he h5
      have pl : ¬ nI (tn (vk w k 6)) < 0 := nI_pos (tn_lt _)
      by_cases ha : 0 < arr w k
      · refine J_ild S_L_viewHolds rfl rfl ?_
        refine J_if S_L_viewHolds rfl (fun c190 => ?_) (fun c190 => False.elim (c190 rfl))
        refine J_ild S_L_viewHolds rfl rfl ?_
        refine J_if S_L_viewHolds rfl (fun c243 => False.elim (absurd c243 (by decide))) (fun c243 => ?_)
        refine J_ild S_L_viewHolds rfl rfl ?_
        refine J_if S_L_viewHolds rfl (fun c248 => False.elim (pl c248)) (fun c248 => ?_)
        refine J_ild S_L_viewHolds rfl rfl ?_
        refine J_ild S_L_viewHolds rfl rfl ?_
        refine J_cmp S_L_viewHolds rfl (fun c255 => False.elim (nI_nlt hp (tn_lt _) c255)) (fun c255 => ?_)
        refine J_ald S_L_viewHolds rfl rfl ?_
        refine J_ild S_L_viewHolds rfl rfl ?_
        refine J_CV S_L_viewHolds rfl rfl (by assumption) (by omega) (by simp) (hkp) ?_
        rintro _ _ ⟨I1, rfl, rfl, s1⟩
        refine J_ald S_L_viewHolds rfl rfl ?_
        refine J_ild S_L_viewHolds rfl rfl ?_
        refine J_ild S_L_viewHolds rfl rfl ?_
        refine J_C S_L_viewHolds rfl ?_
        refine J_CV S_L_viewHolds rfl rfl (by assumption) (by omega) (by simp) (G_ask (LKS_sc h s1) hk he hp (Or.inl rfl)) ?_
        rintro _ _ ⟨I2, rfl, rfl, s2⟩
        refine J_cmp S_L_viewHolds rfl (fun c271 => False.elim (c271 rfl)) (fun c271 => ?_)
        refine J_ild S_L_viewHolds rfl rfl ?_
        refine J_if S_L_viewHolds rfl (fun c276 => ?_) (fun c276 => False.elim (c276 (nI_lt (a := 0) ha (by omega))))
        refine J_C S_L_viewHolds rfl ?_
        refine J_goto S_L_viewHolds rfl ?_
        refine J_retZ S_L_viewHolds rfl (by decide) ?_
        exact ⟨_, rfl, rfl, sc_tr s1 s2⟩
      · have kz := kept_end hI hk he h5 (by omega)
        refine J_ild S_L_viewHolds rfl rfl ?_
        refine J_if S_L_viewHolds rfl (fun c190 => ?_) (fun c190 => False.elim (c190 rfl))
        refine J_ild S_L_viewHolds rfl rfl ?_
        refine J_if S_L_viewHolds rfl (fun c243 => False.elim (absurd c243 (by decide))) (fun c243 => ?_)
        refine J_ild S_L_viewHolds rfl rfl ?_
        refine J_if S_L_viewHolds rfl (fun c248 => False.elim (pl c248)) (fun c248 => ?_)
        refine J_ild S_L_viewHolds rfl rfl ?_
        refine J_ild S_L_viewHolds rfl rfl ?_
        refine J_cmp S_L_viewHolds rfl (fun c255 => False.elim (nI_nlt hp (tn_lt _) c255)) (fun c255 => ?_)
        refine J_ald S_L_viewHolds rfl rfl ?_
        refine J_ild S_L_viewHolds rfl rfl ?_
        refine J_CV S_L_viewHolds rfl rfl (by assumption) (by omega) (by simp) (hkp) ?_
        rintro _ _ ⟨I1, rfl, rfl, s1⟩
        refine J_ald S_L_viewHolds rfl rfl ?_
        refine J_ild S_L_viewHolds rfl rfl ?_
        refine J_ild S_L_viewHolds rfl rfl ?_
        refine J_C S_L_viewHolds rfl ?_
        refine J_CV S_L_viewHolds rfl rfl (by assumption) (by omega) (by simp) (G_ask (LKS_sc h s1) hk he hp (Or.inl rfl)) ?_
        rintro _ _ ⟨I2, rfl, rfl, s2⟩
        refine J_cmp S_L_viewHolds rfl (fun c271 => False.elim (c271 rfl)) (fun c271 => ?_)
        refine J_ild S_L_viewHolds rfl rfl ?_
        refine J_if S_L_viewHolds rfl (fun c276 => False.elim (by rw [show arr w k = 0 by omega] at c276; exact absurd c276 (by decide))) (fun c276 => ?_)
        refine J_ald S_L_viewHolds rfl rfl ?_
        refine J_ild S_L_viewHolds rfl rfl ?_
        refine J_CV S_L_viewHolds rfl rfl (by assumption) (by omega) (by simp) (G_kept (LKS_sc h (sc_tr s1 s2)) hk he h5) ?_
        rintro _ _ ⟨I3, rfl, rfl, s3⟩
        refine J_ald S_L_viewHolds rfl rfl ?_
        refine J_ild S_L_viewHolds rfl rfl ?_
        refine J_ild S_L_viewHolds rfl rfl ?_
        refine J_C S_L_viewHolds rfl ?_
        refine J_CV S_L_viewHolds rfl rfl (by assumption) (by omega) (by simp) (G_ask (LKS_sc h (sc_tr (sc_tr s1 s2) s3)) hk he (Nat.le_refl _) (Or.inr rfl)) ?_
        rintro _ _ ⟨I4, rfl, rfl, s4⟩
        refine J_cmp S_L_viewHolds rfl (fun c292 => False.elim (c292 kz)) (fun c292 => ?_)
        refine J_C S_L_viewHolds rfl ?_
        refine J_goto S_L_viewHolds rfl ?_
        refine J_retZ S_L_viewHolds rfl (by decide) ?_
        exact ⟨_, rfl, rfl, sc_tr (sc_tr (sc_tr s1 s2) s3) s4⟩
    have l91 := mid _ _ _ fin
    rw [ar] at l91
    have l54 := loop _ _ _ _ (tn (vk w k 6)) hp l91 (tn (w 0) - tn (vk w k 6)) 0 (by omega)
    refine J_ald S_L_viewHolds rfl rfl ?_
    refine J_ild S_L_viewHolds rfl rfl ?_
    refine J_C S_L_viewHolds rfl ?_
    refine J_CVx S_L_viewHolds rfl rfl (by assumption) (by omega) (by simp) (v4) rfl ?_
    refine J_C S_L_viewHolds rfl ?_
    refine J_cmp S_L_viewHolds rfl (fun c7 => ?_) (fun c7 => False.elim (absurd c7 (by decide)))
    refine J_C S_L_viewHolds rfl ?_
    refine J_ist S_L_viewHolds rfl rfl ?_
    refine J_ald S_L_viewHolds rfl rfl ?_
    refine J_ild S_L_viewHolds rfl rfl ?_
    refine J_C S_L_viewHolds rfl ?_
    refine J_CVx S_L_viewHolds rfl rfl (by assumption) (by omega) (by simp) (v0) rfl ?_
    refine J_ist S_L_viewHolds rfl rfl ?_
    refine J_ald S_L_viewHolds rfl rfl ?_
    refine J_ild S_L_viewHolds rfl rfl ?_
    refine J_C S_L_viewHolds rfl ?_
    refine J_CVx S_L_viewHolds rfl rfl (by assumption) (by omega) (by simp) (v5) rfl ?_
    refine J_ist S_L_viewHolds rfl rfl ?_
    refine J_ald S_L_viewHolds rfl rfl ?_
    refine J_C S_L_viewHolds rfl ?_
    refine J_CVx S_L_viewHolds rfl rfl (by assumption) (by omega) (by simp) (h0) rfl ?_
    refine J_ist S_L_viewHolds rfl rfl ?_
    refine J_C S_L_viewHolds rfl ?_
    refine J_ist S_L_viewHolds rfl rfl ?_
    refine J_ild S_L_viewHolds rfl rfl ?_
    refine J_if S_L_viewHolds rfl (fun c42 => ?_) (fun c42 => False.elim (c42 rfl))
    refine J_ild S_L_viewHolds rfl rfl ?_
    refine J_ist S_L_viewHolds rfl rfl ?_
    exact l54
  · -- it is bankrupt
    rw [h5] at v4
    rw [if_pos h5] at v5
    have ar : arr w k = cnt (fun j => cs w k (cl w j)) (tn (w 0)) (tn (w 0) - tn (w 0)) := by
      unfold arr
      rw [if_pos h5, Nat.sub_self]
      rfl
    have h7 := hZ k hk he h5
    rw [h7] at v7
    have hkp := X9_kept_ill hR hI hk he h5
    have hru := X9_ruin_ill hR hI hk he h5
    have fin : mj_J D_L_viewHolds (mj_px (fun r I1 => r = some (.inl 1) ∧ SC I I1)) 189 [some (.inr (some 0)), some (.inl (nI k)), some (.inl 1), some (.inl (vk w k 0)), some (.inl (-100000009)), some (.inl (nI (tn (w 0)))), some (.inl (nI (arr w k))), some (.inl (w 10 * (if 2 < vk w k 0 then 2 else 1))), some (.inl 1)] [] (mj_w I) (0, 0) := by
      refine J_ild S_L_viewHolds rfl rfl ?_
      refine J_if S_L_viewHolds rfl (fun c190 => False.elim (absurd c190 (by decide))) (fun c190 => ?_)
      refine J_ild S_L_viewHolds rfl rfl ?_
      refine J_if S_L_viewHolds rfl (fun c195 => False.elim (absurd c195 (by decide))) (fun c195 => ?_)
      refine J_ild S_L_viewHolds rfl rfl ?_
      refine J_C S_L_viewHolds rfl ?_
      refine J_cmp S_L_viewHolds rfl (fun c202 => False.elim (c202 rfl)) (fun c202 => ?_)
      refine J_ald S_L_viewHolds rfl rfl ?_
      refine J_ild S_L_viewHolds rfl rfl ?_
      refine J_C S_L_viewHolds rfl ?_
      refine J_CVx S_L_viewHolds rfl rfl (by assumption) (by omega) (by simp) (v7) rfl ?_
      refine J_if S_L_viewHolds rfl (fun c212 => False.elim (c212 rfl)) (fun c212 => ?_)
      refine J_ald S_L_viewHolds rfl rfl ?_
      refine J_ild S_L_viewHolds rfl rfl ?_
      refine J_CVx S_L_viewHolds rfl rfl (by assumption) (by omega) (by simp) (hkp) rfl ?_
      refine J_C S_L_viewHolds rfl ?_
      refine J_cmp S_L_viewHolds rfl (fun c222 => False.elim (c222 rfl)) (fun c222 => ?_)
      refine J_ald S_L_viewHolds rfl rfl ?_
      refine J_ild S_L_viewHolds rfl rfl ?_
      refine J_CVx S_L_viewHolds rfl rfl (by assumption) (by omega) (by simp) (hru) rfl ?_
      refine J_C S_L_viewHolds rfl ?_
      refine J_cmp S_L_viewHolds rfl (fun c232 => False.elim (c232 rfl)) (fun c232 => ?_)
      refine J_C S_L_viewHolds rfl ?_
      refine J_goto S_L_viewHolds rfl ?_
      refine J_retZ S_L_viewHolds rfl (by decide) ?_
      exact ⟨_, rfl, rfl, sc_rf⟩
    have l91 := mid _ _ _ fin
    rw [ar] at l91
    have l54 := loop _ _ _ _ (tn (w 0)) (Nat.le_refl _) l91 0 0 (by omega)
    refine J_ald S_L_viewHolds rfl rfl ?_
    refine J_ild S_L_viewHolds rfl rfl ?_
    refine J_C S_L_viewHolds rfl ?_
    refine J_CVx S_L_viewHolds rfl rfl (by assumption) (by omega) (by simp) (v4) rfl ?_
    refine J_C S_L_viewHolds rfl ?_
    refine J_cmp S_L_viewHolds rfl (fun c7 => False.elim (c7 rfl)) (fun c7 => ?_)
    refine J_C S_L_viewHolds rfl ?_
    refine J_goto S_L_viewHolds rfl ?_
    refine J_ist S_L_viewHolds rfl rfl ?_
    refine J_ald S_L_viewHolds rfl rfl ?_
    refine J_ild S_L_viewHolds rfl rfl ?_
    refine J_C S_L_viewHolds rfl ?_
    refine J_CVx S_L_viewHolds rfl rfl (by assumption) (by omega) (by simp) (v0) rfl ?_
    refine J_ist S_L_viewHolds rfl rfl ?_
    refine J_ald S_L_viewHolds rfl rfl ?_
    refine J_ild S_L_viewHolds rfl rfl ?_
    refine J_C S_L_viewHolds rfl ?_
    refine J_CVx S_L_viewHolds rfl rfl (by assumption) (by omega) (by simp) (v5) rfl ?_
    refine J_ist S_L_viewHolds rfl rfl ?_
    refine J_ald S_L_viewHolds rfl rfl ?_
    refine J_C S_L_viewHolds rfl ?_
    refine J_CVx S_L_viewHolds rfl rfl (by assumption) (by omega) (by simp) (h0) rfl ?_
    refine J_ist S_L_viewHolds rfl rfl ?_
    refine J_C S_L_viewHolds rfl ?_
    refine J_ist S_L_viewHolds rfl rfl ?_
    refine J_ild S_L_viewHolds rfl rfl ?_
    refine J_if S_L_viewHolds rfl (fun c42 => False.elim (absurd c42 (by decide))) (fun c42 => ?_)
    refine J_ild S_L_viewHolds rfl rfl ?_
    refine J_goto S_L_viewHolds rfl ?_
    refine J_ist S_L_viewHolds rfl rfl ?_
    exact l54
end Vh
