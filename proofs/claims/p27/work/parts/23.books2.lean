theorem k_012 {x : Int32} (h : rg x 4) : (x = 0 ∨ x = 1 ∨ x = 2) ↔ ¬ 3 ≤ x := by
  rw [h.1]
  have := h.2
  generalize tn x = n at this
  have hn : n = 0 ∨ n = 1 ∨ n = 2 ∨ n = 3 ∨ n = 4 := by omega
  rcases hn with rfl | rfl | rfl | rfl | rfl <;> decide
def bel (v : mv) (w k : Nat) : Bool := match w with
  | 1 => decide (vk v k 5 = 1)
  | 2 => decide (vk v k 5 = 0)
  | 3 => decide (0 < arr v k)
  | 4 => decide (vk v k 5 = 0) && decide (need v k = 0)
  | _ => true
def made (v : mv) (x : Int32) (k : Nat) : Bool := ex v k && (decide (vk v k 0 = 4) && (decide (vk v k 2 = x) || decide (vk v k 3 = x)))
/-- is there one below n -/
def anyB (p : Nat → Bool) : Nat → Bool
  | 0 => false
  | n + 1 => anyB p n || p n
section Bk2
variable {I : mj_I} {b : Nat} {v : mv}
theorem C_X0_price (hB : mj_isB b) (hR : RB I b v) (hI : IV v) {k : Nat} (hk : k < 8) (he : vk v k 4 = 1) : mj_R D_X0_priceOfArrear [.inr (some b), .inr (some (b + 7 + k))] (mj_w I) (mj_ex (some (.inl (prc v k))) I) := by
  have hB' := hB
  have hw := hI.wv hk he
  obtain ⟨h0, h1, h2, h3, h4, h5, h6, hv, hb⟩ := hB
  have hvk := hv k hk
  obtain ⟨r1, -⟩ := (hR.2.2.2.2 k hk).2.2 he
  have e := k_012 hw.2.1
  have hs := C_X0_setting (I := I) hB' (i := 1) (by decide)
  rw [hR.2.2.1 1 (by decide)] at hs
  refine mj_enter (by decide +kernel) (Nat.le_of_ble_eq_true rfl) ?_
  by_cases h3 : 3 ≤ vk v k 0
  · have e2 : ¬ (I (b + 7 + k) 1 = 0 ∨ I (b + 7 + k) 1 = 1 ∨ I (b + 7 + k) 1 = 2) := by rw [r1, e]; exact fun h => h h3
    have hh := C_X8_hasTable (I := I) hvk (by omega)
    rw [if_neg e2] at hh
    refine J_ald S_X0_priceOfArrear rfl rfl ?_
    refine J_CVx S_X0_priceOfArrear rfl rfl (by assumption) (by omega) (by simp) (hh) rfl ?_
    refine J_if S_X0_priceOfArrear rfl (fun c4 => ?_) (fun c4 => False.elim (c4 rfl))
    refine J_C S_X0_priceOfArrear rfl ?_
    refine J_ald S_X0_priceOfArrear rfl rfl ?_
    refine J_C S_X0_priceOfArrear rfl ?_
    refine J_CVx S_X0_priceOfArrear rfl rfl (by assumption) (by omega) (by simp) (hs) rfl ?_
    refine J_bin S_X0_priceOfArrear rfl ?_
    refine J_retI S_X0_priceOfArrear rfl ?_
    rw [prc, if_pos h3]; exact ⟨rfl, rfl⟩
  · have e2 : (I (b + 7 + k) 1 = 0 ∨ I (b + 7 + k) 1 = 1 ∨ I (b + 7 + k) 1 = 2) := by rw [r1, e]; exact h3
    have hh := C_X8_hasTable (I := I) hvk (by omega)
    rw [if_pos e2] at hh
    refine J_ald S_X0_priceOfArrear rfl rfl ?_
    refine J_CVx S_X0_priceOfArrear rfl rfl (by assumption) (by omega) (by simp) (hh) rfl ?_
    refine J_if S_X0_priceOfArrear rfl (fun c4 => False.elim (absurd c4 (by decide))) (fun c4 => ?_)
    refine J_ald S_X0_priceOfArrear rfl rfl ?_
    refine J_C S_X0_priceOfArrear rfl ?_
    refine J_CVx S_X0_priceOfArrear rfl rfl (by assumption) (by omega) (by simp) (hs) rfl ?_
    refine J_goto S_X0_priceOfArrear rfl ?_
    refine J_retI S_X0_priceOfArrear rfl ?_
    rw [prc, if_neg h3]; exact ⟨rfl, rfl⟩
theorem C_X0_need (hB : mj_isB b) (hR : RB I b v) (hI : IV v) {k : Nat} (hk : k < 8) (he : vk v k 4 = 1) : mj_R D_X0_need [.inr (some b), .inr (some (b + 7 + k))] (mj_w I) (mj_ex (some (.inl (need v k))) I) := by
  have hB' := hB
  obtain ⟨h0, h1, h2, h3, h4, h5, h6, hv, hb⟩ := hB
  have hvk := hv k hk
  obtain ⟨r1, r2, r3, r4, r5, r6, r7, r8, r9, r10⟩ := (hR.2.2.2.2 k hk).2.2 he
  refine mj_enter (by decide +kernel) (Nat.le_of_ble_eq_true rfl) ?_
  refine J_ald S_X0_need rfl rfl ?_
  refine J_getI S_X0_need rfl (by assumption) (by omega) ?_
  refine J_ald S_X0_need rfl rfl ?_
  refine J_ald S_X0_need rfl rfl ?_
  refine J_CVx S_X0_need rfl rfl (by assumption) (by omega) (by simp) (C_X0_arrears hB' hR hI hk he) rfl ?_
  refine J_ald S_X0_need rfl rfl ?_
  refine J_ald S_X0_need rfl rfl ?_
  refine J_CVx S_X0_need rfl rfl (by assumption) (by omega) (by simp) (C_X0_price hB' hR hI hk he) rfl ?_
  refine J_bin S_X0_need rfl ?_
  refine J_bin S_X0_need rfl ?_
  refine J_retI S_X0_need rfl ?_
  rw [need, ← r9]; exact ⟨rfl, rfl⟩
theorem C_X0_interest (hB : mj_isB b) (hR : RB I b v) (hI : IV v) {k : Nat} (hk : k < 8) (he : vk v k 4 = 1) : mj_R D_X0_interest [.inr (some b), .inr (some (b + 7 + k))] (mj_w I) (mj_ex (some (.inl (v 9 * nI (arr v k)))) I) := by
  have hB' := hB
  obtain ⟨h0, h1, h2, h3, h4, h5, h6, hv, hb⟩ := hB
  have hs := C_X0_setting (I := I) hB' (i := 0) (by decide)
  rw [hR.2.2.1 0 (by decide)] at hs
  have hvk := hv k hk
  refine mj_enter (by decide +kernel) (Nat.le_of_ble_eq_true rfl) ?_
  refine J_ald S_X0_interest rfl rfl ?_
  refine J_C S_X0_interest rfl ?_
  refine J_CVx S_X0_interest rfl rfl (by assumption) (by omega) (by simp) (hs) rfl ?_
  refine J_ald S_X0_interest rfl rfl ?_
  refine J_ald S_X0_interest rfl rfl ?_
  refine J_CVx S_X0_interest rfl rfl (by assumption) (by omega) (by simp) (C_X0_arrears hB' hR hI hk he) rfl ?_
  refine J_bin S_X0_interest rfl ?_
  refine J_retI S_X0_interest rfl ?_
  exact ⟨rfl, rfl⟩
theorem C_X0_foundingCost (hB : mj_isB b) (hR : RB I b v) {k : Nat} (hk : k < 8) (he : vk v k 4 = 1) : mj_R D_X0_foundingCost [.inr (some b), .inr (some (b + 7 + k))] (mj_w I) (mj_ex (some (.inl (3 * v 10 * nI (ks v k)))) I) := by
  have hB' := hB
  obtain ⟨h0, h1, h2, h3, h4, h5, h6, hv, hb⟩ := hB
  have hs := C_X0_setting (I := I) hB' (i := 1) (by decide)
  rw [hR.2.2.1 1 (by decide)] at hs
  have hvk := hv k hk
  obtain ⟨r1, r2, r3, r4, r5, r6, r7, r8, r9, r10⟩ := (hR.2.2.2.2 k hk).2.2 he
  refine mj_enter (by decide +kernel) (Nat.le_of_ble_eq_true rfl) ?_
  refine J_C S_X0_foundingCost rfl ?_
  refine J_ald S_X0_foundingCost rfl rfl ?_
  refine J_C S_X0_foundingCost rfl ?_
  refine J_CVx S_X0_foundingCost rfl rfl (by assumption) (by omega) (by simp) (hs) rfl ?_
  refine J_bin S_X0_foundingCost rfl ?_
  refine J_ald S_X0_foundingCost rfl rfl ?_
  refine J_getI S_X0_foundingCost rfl (by assumption) (by omega) ?_
  refine J_bin S_X0_foundingCost rfl ?_
  refine J_retI S_X0_foundingCost rfl ?_
  rw [r6]; exact ⟨rfl, rfl⟩
theorem C_X0_belongs (hB : mj_isB b) (hR : RB I b v) (hI : IV v) {k : Nat} (hk : k < 8) (he : vk v k 4 = 1) {w : Nat} (hw : w < 5) : mj_R D_X0_belongs [.inr (some b), .inr (some (b + 7 + k)), .inl (nI w)] (mj_w I) (mj_ex (some (.inl (bi (bel v w k)))) I) := by
  have hB' := hB
  have h01 := rg_01 (hI.wv hk he).2.2.2.2.2.2.2.2.2.1
  obtain ⟨h0, h1, h2, h3, h4, h5, h6, hv, hb⟩ := hB
  have hvk := hv k hk
  obtain ⟨r1, r2, r3, r4, r5, r6, r7, r8, r9, r10⟩ := (hR.2.2.2.2 k hk).2.2 he
  have n01 : ∀ h : ¬ vk v k 5 = 0, vk v k 5 = 1 := fun h => h01.resolve_left h
  have ha : arr v k < 2 ^ 31 := by
    unfold arr
    split
    · decide
    · have := cnt_le (fun j => cs v k (cl v j)) (tn (vk v k 6)) (tn (v 0) - tn (vk v k 6))
      have := tn_lt (v 0)
      omega
  refine mj_enter (by decide +kernel) (Nat.le_of_ble_eq_true rfl) ?_
  have hw5 : w = 0 ∨ w = 1 ∨ w = 2 ∨ w = 3 ∨ w = 4 := by omega
  rcases hw5 with rfl | rfl | rfl | rfl | rfl
  · refine J_ild S_X0_belongs rfl rfl ?_
    refine J_sw S_X0_belongs rfl ⟨fun c => False.elim (by revert c; decide), fun _ => ⟨fun c => False.elim (by revert c; decide), fun _ => ⟨fun c => False.elim (by revert c; decide), fun _ => ⟨fun c => False.elim (by revert c; decide), fun _ => ?_⟩⟩⟩⟩
    refine J_C S_X0_belongs rfl ?_
    refine J_retZ S_X0_belongs rfl (by decide) ?_
    exact ⟨rfl, rfl⟩
  · refine J_ild S_X0_belongs rfl rfl ?_
    refine J_sw S_X0_belongs rfl ⟨fun _ => ?_, fun c => False.elim (by revert c; decide)⟩
    refine J_ald S_X0_belongs rfl rfl ?_
    refine J_getI S_X0_belongs rfl (by assumption) (by omega) ?_
    refine J_retZ S_X0_belongs rfl (by rw [r7]; exact h01) ?_
    refine ⟨?_, rfl⟩; rw [r7]; rcases h01 with e|e <;> rw [bel, e] <;> rfl
  · refine J_ild S_X0_belongs rfl rfl ?_
    refine J_sw S_X0_belongs rfl ⟨fun c => False.elim (by revert c; decide), fun _ => ⟨fun _ => ?_, fun c => False.elim (by revert c; decide)⟩⟩
    refine J_ald S_X0_belongs rfl rfl ?_
    refine J_getI S_X0_belongs rfl (by assumption) (by omega) ?_
    refine J_if S_X0_belongs rfl (fun c41 => ?_) (fun c41 => ?_)
    · refine J_C S_X0_belongs rfl ?_
      refine J_retZ S_X0_belongs rfl (by decide) ?_
      rw [r7] at c41; rw [bel, decide_eq_false c41]; exact ⟨rfl, rfl⟩
    · refine J_C S_X0_belongs rfl ?_
      refine J_goto S_X0_belongs rfl ?_
      refine J_retZ S_X0_belongs rfl (by decide) ?_
      rw [r7] at c41; rw [bel, decide_eq_true c41]; exact ⟨rfl, rfl⟩
  · refine J_ild S_X0_belongs rfl rfl ?_
    refine J_sw S_X0_belongs rfl ⟨fun c => False.elim (by revert c; decide), fun _ => ⟨fun c => False.elim (by revert c; decide), fun _ => ⟨fun _ => ?_, fun c => False.elim (by revert c; decide)⟩⟩⟩
    refine J_ald S_X0_belongs rfl rfl ?_
    refine J_ald S_X0_belongs rfl rfl ?_
    refine J_CVx S_X0_belongs rfl rfl (by assumption) (by omega) (by simp) (C_X0_arrears hB' hR hI hk he) rfl ?_
    refine J_if S_X0_belongs rfl (fun c55 => ?_) (fun c55 => ?_)
    · refine J_C S_X0_belongs rfl ?_
      refine J_retZ S_X0_belongs rfl (by decide) ?_
      rw [bel, decide_eq_false (fun h => nI_nle h ha c55)]; exact ⟨rfl, rfl⟩
    · refine J_C S_X0_belongs rfl ?_
      refine J_goto S_X0_belongs rfl ?_
      refine J_retZ S_X0_belongs rfl (by decide) ?_
      rw [bel, decide_eq_true (Nat.pos_of_ne_zero (fun h => c55 (by rw [h]; decide)))]; exact ⟨rfl, rfl⟩
  · refine J_ild S_X0_belongs rfl rfl ?_
    refine J_sw S_X0_belongs rfl ⟨fun c => False.elim (by revert c; decide), fun _ => ⟨fun c => False.elim (by revert c; decide), fun _ => ⟨fun c => False.elim (by revert c; decide), fun _ => ⟨fun _ => ?_, fun c => False.elim (by revert c; decide)⟩⟩⟩⟩
    refine J_ald S_X0_belongs rfl rfl ?_
    refine J_getI S_X0_belongs rfl (by assumption) (by omega) ?_
    refine J_if S_X0_belongs rfl (fun c68 => ?_) (fun c68 => ?_)
    · refine J_C S_X0_belongs rfl ?_
      refine J_retZ S_X0_belongs rfl (by decide) ?_
      rw [r7] at c68; rw [bel, decide_eq_false c68]; exact ⟨rfl, rfl⟩
    · refine J_ald S_X0_belongs rfl rfl ?_
      refine J_ald S_X0_belongs rfl rfl ?_
      refine J_CVx S_X0_belongs rfl rfl (by assumption) (by omega) (by simp) (C_X0_need hB' hR hI hk he) rfl ?_
      refine J_if S_X0_belongs rfl (fun c76 => ?_) (fun c76 => ?_)
      · refine J_C S_X0_belongs rfl ?_
        refine J_retZ S_X0_belongs rfl (by decide) ?_
        rw [bel, decide_eq_false c76, Bool.and_false]; exact ⟨rfl, rfl⟩
      · refine J_C S_X0_belongs rfl ?_
        refine J_goto S_X0_belongs rfl ?_
        refine J_retZ S_X0_belongs rfl (by decide) ?_
        rw [r7] at c68; rw [bel, decide_eq_true c68, decide_eq_true c76]; exact ⟨rfl, rfl⟩
theorem C_X0_setOf (hB : mj_isB b) (hR : RB I b v) (hI : IV v) {w : Nat} (hw : w < 5) : mj_R D_X0_setOf [.inr (some b), .inl (nI w)] (mj_w I) (mj_ex (some (.inl (nI (msk (fun k => ex v k && bel v w k) 8)))) I) := by
  have hB' := hB
  obtain ⟨h0, h1, h2, h3, h4, h5, h6, hv, hb⟩ := hB
  refine mj_enter (by decide +kernel) (Nat.le_of_ble_eq_true rfl) ?_
  have key : ∀ (n k : Nat) (q : Option mj_V), k + n = 8 → mj_J D_X0_setOf (mj_ex (some (.inl (nI (msk (fun k => ex v k && bel v w k) 8)))) I) 4 [some (.inr (some b)), some (.inl (nI w)), some (.inl (nI (msk (fun k => ex v k && bel v w k) k))), some (.inl (nI k)), q] [] (mj_w I) (0, 0) := by
    intro n
    induction n with
    | zero =>
      intro k q hk
      obtain rfl : k = 8 := by omega
      refine J_ild S_X0_setOf rfl rfl ?_
      refine J_C S_X0_setOf rfl ?_
      refine J_cmp S_X0_setOf rfl (fun c7 => ?_) (fun c7 => False.elim (c7 (by decide)))
      refine J_ild S_X0_setOf rfl rfl ?_
      refine J_retI S_X0_setOf rfl ?_
      exact ⟨rfl, rfl⟩
    | succ n ih =>
      intro k q hk
      have hk8 : k < 8 := by omega
      rcases hI.b01 hk8 with he | he
      · have e : msk (fun k => ex v k && bel v w k) (k + 1) = msk (fun k => ex v k && bel v w k) k := by rw [msk, ex_f he]; rfl
        refine J_ild S_X0_setOf rfl rfl ?_
        refine J_C S_X0_setOf rfl ?_
        refine J_cmp S_X0_setOf rfl (fun c7 => False.elim (nI_ge (b := 8) hk8 (by decide) c7)) (fun c7 => ?_)
        refine J_ald S_X0_setOf rfl rfl ?_
        refine J_ild S_X0_setOf rfl rfl ?_
        refine J_CVx S_X0_setOf rfl rfl (by assumption) (by omega) (by simp) (C_X0_find_n hB' hR hI hk8 he) rfl ?_
        refine J_ast S_X0_setOf rfl rfl ?_
        refine J_ald S_X0_setOf rfl rfl ?_
        refine J_nuN S_X0_setOf rfl ?_
        refine J_inc S_X0_setOf rfl rfl rfl ?_
        refine J_goto S_X0_setOf rfl ?_
        rw [← nI_succ, ← e]
        exact ih (k + 1) _ (by omega)
      · have hvk := hv k hk8
        cases hp : bel v w k
        · have e : msk (fun k => ex v k && bel v w k) (k + 1) = msk (fun k => ex v k && bel v w k) k := by rw [msk, hp, Bool.and_false]; rfl
          have hc := C_X0_belongs hB' hR hI hk8 he hw
          rw [hp] at hc
          refine J_ild S_X0_setOf rfl rfl ?_
          refine J_C S_X0_setOf rfl ?_
          refine J_cmp S_X0_setOf rfl (fun c7 => False.elim (nI_ge (b := 8) hk8 (by decide) c7)) (fun c7 => ?_)
          refine J_ald S_X0_setOf rfl rfl ?_
          refine J_ild S_X0_setOf rfl rfl ?_
          refine J_CVx S_X0_setOf rfl rfl (by assumption) (by omega) (by simp) (C_X0_find_y hB' hR hI hk8 he) rfl ?_
          refine J_ast S_X0_setOf rfl rfl ?_
          refine J_ald S_X0_setOf rfl rfl ?_
          refine J_nuS S_X0_setOf rfl ?_
          refine J_ald S_X0_setOf rfl rfl ?_
          refine J_ald S_X0_setOf rfl rfl ?_
          refine J_ild S_X0_setOf rfl rfl ?_
          refine J_CVx S_X0_setOf rfl rfl (by assumption) (by omega) (by simp) (hc) rfl ?_
          refine J_if S_X0_setOf rfl (fun c29 => ?_) (fun c29 => False.elim (c29 rfl))
          refine J_inc S_X0_setOf rfl rfl rfl ?_
          refine J_goto S_X0_setOf rfl ?_
          rw [← nI_succ, ← e]
          exact ih (k + 1) _ (by omega)
        · have e : nI (msk (fun k => ex v k && bel v w k) k) ||| (1 <<< (nI k &&& 31)) = nI (msk (fun k => ex v k && bel v w k) (k + 1)) := by rw [msk_or1 _ _ (by omega), msk, ex_t he, hp]; rfl
          have hc := C_X0_belongs hB' hR hI hk8 he hw
          rw [hp] at hc
          refine J_ild S_X0_setOf rfl rfl ?_
          refine J_C S_X0_setOf rfl ?_
          refine J_cmp S_X0_setOf rfl (fun c7 => False.elim (nI_ge (b := 8) hk8 (by decide) c7)) (fun c7 => ?_)
          refine J_ald S_X0_setOf rfl rfl ?_
          refine J_ild S_X0_setOf rfl rfl ?_
          refine J_CVx S_X0_setOf rfl rfl (by assumption) (by omega) (by simp) (C_X0_find_y hB' hR hI hk8 he) rfl ?_
          refine J_ast S_X0_setOf rfl rfl ?_
          refine J_ald S_X0_setOf rfl rfl ?_
          refine J_nuS S_X0_setOf rfl ?_
          refine J_ald S_X0_setOf rfl rfl ?_
          refine J_ald S_X0_setOf rfl rfl ?_
          refine J_ild S_X0_setOf rfl rfl ?_
          refine J_CVx S_X0_setOf rfl rfl (by assumption) (by omega) (by simp) (hc) rfl ?_
          refine J_if S_X0_setOf rfl (fun c29 => False.elim (absurd c29 (by decide))) (fun c29 => ?_)
          refine J_ild S_X0_setOf rfl rfl ?_
          refine J_C S_X0_setOf rfl ?_
          refine J_ild S_X0_setOf rfl rfl ?_
          refine J_bin S_X0_setOf rfl ?_
          refine J_bin S_X0_setOf rfl ?_
          refine J_ist S_X0_setOf rfl rfl ?_
          refine J_inc S_X0_setOf rfl rfl rfl ?_
          refine J_goto S_X0_setOf rfl ?_
          rw [← nI_succ, e]
          exact ih (k + 1) _ (by omega)
  refine J_C S_X0_setOf rfl ?_
  refine J_ist S_X0_setOf rfl rfl ?_
  refine J_C S_X0_setOf rfl ?_
  refine J_ist S_X0_setOf rfl rfl ?_
  exact key 8 0 _ rfl
theorem C_X0_concernedBy (hB : mj_isB b) (hR : RB I b v) (hI : IV v) {c : Nat} (hc : c < 24) : mj_R D_X0_concernedBy [.inr (some b), .inl (nI c)] (mj_w I) (mj_ex (some (.inl (nI (msk (fun k => ex v k && cs v k c) 8)))) I) := by
  have hB' := hB
  obtain ⟨h0, h1, h2, h3, h4, h5, h6, hv, hb⟩ := hB
  refine mj_enter (by decide +kernel) (Nat.le_of_ble_eq_true rfl) ?_
  have key : ∀ (n k : Nat) (q : Option mj_V), k + n = 8 → mj_J D_X0_concernedBy (mj_ex (some (.inl (nI (msk (fun k => ex v k && cs v k c) 8)))) I) 4 [some (.inr (some b)), some (.inl (nI c)), some (.inl (nI (msk (fun k => ex v k && cs v k c) k))), some (.inl (nI k)), q] [] (mj_w I) (0, 0) := by
    intro n
    induction n with
    | zero =>
      intro k q hk
      obtain rfl : k = 8 := by omega
      refine J_ild S_X0_concernedBy rfl rfl ?_
      refine J_C S_X0_concernedBy rfl ?_
      refine J_cmp S_X0_concernedBy rfl (fun c7 => ?_) (fun c7 => False.elim (c7 (by decide)))
      refine J_ild S_X0_concernedBy rfl rfl ?_
      refine J_retI S_X0_concernedBy rfl ?_
      exact ⟨rfl, rfl⟩
    | succ n ih =>
      intro k q hk
      have hk8 : k < 8 := by omega
      rcases hI.b01 hk8 with he | he
      · have e : msk (fun k => ex v k && cs v k c) (k + 1) = msk (fun k => ex v k && cs v k c) k := by rw [msk, ex_f he]; rfl
        refine J_ild S_X0_concernedBy rfl rfl ?_
        refine J_C S_X0_concernedBy rfl ?_
        refine J_cmp S_X0_concernedBy rfl (fun c7 => False.elim (nI_ge (b := 8) hk8 (by decide) c7)) (fun c7 => ?_)
        refine J_ald S_X0_concernedBy rfl rfl ?_
        refine J_ild S_X0_concernedBy rfl rfl ?_
        refine J_CVx S_X0_concernedBy rfl rfl (by assumption) (by omega) (by simp) (C_X0_find_n hB' hR hI hk8 he) rfl ?_
        refine J_ast S_X0_concernedBy rfl rfl ?_
        refine J_ald S_X0_concernedBy rfl rfl ?_
        refine J_nuN S_X0_concernedBy rfl ?_
        refine J_inc S_X0_concernedBy rfl rfl rfl ?_
        refine J_goto S_X0_concernedBy rfl ?_
        rw [← nI_succ, ← e]
        exact ih (k + 1) _ (by omega)
      · have hvk := hv k hk8
        cases hp : cs v k c
        · have e : msk (fun k => ex v k && cs v k c) (k + 1) = msk (fun k => ex v k && cs v k c) k := by rw [msk, hp, Bool.and_false]; rfl
          have hcc := C_con hB' hR hk8 he hc
          rw [hp] at hcc
          refine J_ild S_X0_concernedBy rfl rfl ?_
          refine J_C S_X0_concernedBy rfl ?_
          refine J_cmp S_X0_concernedBy rfl (fun c7 => False.elim (nI_ge (b := 8) hk8 (by decide) c7)) (fun c7 => ?_)
          refine J_ald S_X0_concernedBy rfl rfl ?_
          refine J_ild S_X0_concernedBy rfl rfl ?_
          refine J_CVx S_X0_concernedBy rfl rfl (by assumption) (by omega) (by simp) (C_X0_find_y hB' hR hI hk8 he) rfl ?_
          refine J_ast S_X0_concernedBy rfl rfl ?_
          refine J_ald S_X0_concernedBy rfl rfl ?_
          refine J_nuS S_X0_concernedBy rfl ?_
          refine J_ald S_X0_concernedBy rfl rfl ?_
          refine J_ild S_X0_concernedBy rfl rfl ?_
          refine J_CVx S_X0_concernedBy rfl rfl (by assumption) (by omega) (by simp) (hcc) rfl ?_
          refine J_if S_X0_concernedBy rfl (fun c28 => ?_) (fun c28 => False.elim (c28 rfl))
          refine J_inc S_X0_concernedBy rfl rfl rfl ?_
          refine J_goto S_X0_concernedBy rfl ?_
          rw [← nI_succ, ← e]
          exact ih (k + 1) _ (by omega)
        · have e : nI (msk (fun k => ex v k && cs v k c) k) ||| (1 <<< (nI k &&& 31)) = nI (msk (fun k => ex v k && cs v k c) (k + 1)) := by rw [msk_or1 _ _ (by omega), msk, ex_t he, hp]; rfl
          have hcc := C_con hB' hR hk8 he hc
          rw [hp] at hcc
          refine J_ild S_X0_concernedBy rfl rfl ?_
          refine J_C S_X0_concernedBy rfl ?_
          refine J_cmp S_X0_concernedBy rfl (fun c7 => False.elim (nI_ge (b := 8) hk8 (by decide) c7)) (fun c7 => ?_)
          refine J_ald S_X0_concernedBy rfl rfl ?_
          refine J_ild S_X0_concernedBy rfl rfl ?_
          refine J_CVx S_X0_concernedBy rfl rfl (by assumption) (by omega) (by simp) (C_X0_find_y hB' hR hI hk8 he) rfl ?_
          refine J_ast S_X0_concernedBy rfl rfl ?_
          refine J_ald S_X0_concernedBy rfl rfl ?_
          refine J_nuS S_X0_concernedBy rfl ?_
          refine J_ald S_X0_concernedBy rfl rfl ?_
          refine J_ild S_X0_concernedBy rfl rfl ?_
          refine J_CVx S_X0_concernedBy rfl rfl (by assumption) (by omega) (by simp) (hcc) rfl ?_
          refine J_if S_X0_concernedBy rfl (fun c28 => False.elim (absurd c28 (by decide))) (fun c28 => ?_)
          refine J_ild S_X0_concernedBy rfl rfl ?_
          refine J_C S_X0_concernedBy rfl ?_
          refine J_ild S_X0_concernedBy rfl rfl ?_
          refine J_bin S_X0_concernedBy rfl ?_
          refine J_bin S_X0_concernedBy rfl ?_
          refine J_ist S_X0_concernedBy rfl rfl ?_
          refine J_inc S_X0_concernedBy rfl rfl rfl ?_
          refine J_goto S_X0_concernedBy rfl ?_
          rw [← nI_succ, e]
          exact ih (k + 1) _ (by omega)
  refine J_C S_X0_concernedBy rfl ?_
  refine J_ist S_X0_concernedBy rfl rfl ?_
  refine J_C S_X0_concernedBy rfl ?_
  refine J_ist S_X0_concernedBy rfl rfl ?_
  exact key 8 0 _ rfl
theorem C_X0_allDebts (hB : mj_isB b) (hR : RB I b v) (hI : IV v) : mj_R D_X0_allDebts [.inr (some b)] (mj_w I) (mj_ex (some (.inl (sm (ex v) (fun k => vk v k 7) 8))) I) := by
  have hB' := hB
  obtain ⟨h0, h1, h2, h3, h4, h5, h6, hv, hb⟩ := hB
  refine mj_enter (by decide +kernel) (Nat.le_of_ble_eq_true rfl) ?_
  have key : ∀ (n k : Nat) (q : Option mj_V), k + n = 8 → mj_J D_X0_allDebts (mj_ex (some (.inl (sm (ex v) (fun k => vk v k 7) 8))) I) 4 [some (.inr (some b)), some (.inl (sm (ex v) (fun k => vk v k 7) k)), some (.inl (nI k)), q] [] (mj_w I) (0, 0) := by
    intro n
    induction n with
    | zero =>
      intro k q hk
      obtain rfl : k = 8 := by omega
      refine J_ild S_X0_allDebts rfl rfl ?_
      refine J_C S_X0_allDebts rfl ?_
      refine J_cmp S_X0_allDebts rfl (fun c7 => ?_) (fun c7 => False.elim (c7 (by decide)))
      refine J_ild S_X0_allDebts rfl rfl ?_
      refine J_retI S_X0_allDebts rfl ?_
      exact ⟨rfl, rfl⟩
    | succ n ih =>
      intro k q hk
      have hk8 : k < 8 := by omega
      rcases hI.b01 hk8 with he | he
      · have e : sm (ex v) (fun k => vk v k 7) (k + 1) = sm (ex v) (fun k => vk v k 7) k := by rw [sm, ex_f he]; rfl
        refine J_ild S_X0_allDebts rfl rfl ?_
        refine J_C S_X0_allDebts rfl ?_
        refine J_cmp S_X0_allDebts rfl (fun c7 => False.elim (nI_ge (b := 8) hk8 (by decide) c7)) (fun c7 => ?_)
        refine J_ald S_X0_allDebts rfl rfl ?_
        refine J_ild S_X0_allDebts rfl rfl ?_
        refine J_CVx S_X0_allDebts rfl rfl (by assumption) (by omega) (by simp) (C_X0_find_n hB' hR hI hk8 he) rfl ?_
        refine J_ast S_X0_allDebts rfl rfl ?_
        refine J_ald S_X0_allDebts rfl rfl ?_
        refine J_nuN S_X0_allDebts rfl ?_
        refine J_inc S_X0_allDebts rfl rfl rfl ?_
        refine J_goto S_X0_allDebts rfl ?_
        rw [← nI_succ, ← e]
        exact ih (k + 1) _ (by omega)
      · have hvk := hv k hk8
        obtain ⟨r1, r2, r3, r4, r5, r6, r7, r8, r9, r10⟩ := (hR.2.2.2.2 k hk8).2.2 he
        have e : sm (ex v) (fun k => vk v k 7) (k + 1) = sm (ex v) (fun k => vk v k 7) k + I (b + 7 + k) 9 := by rw [sm, ex_t he, r9]; rfl
        refine J_ild S_X0_allDebts rfl rfl ?_
        refine J_C S_X0_allDebts rfl ?_
        refine J_cmp S_X0_allDebts rfl (fun c7 => False.elim (nI_ge (b := 8) hk8 (by decide) c7)) (fun c7 => ?_)
        refine J_ald S_X0_allDebts rfl rfl ?_
        refine J_ild S_X0_allDebts rfl rfl ?_
        refine J_CVx S_X0_allDebts rfl rfl (by assumption) (by omega) (by simp) (C_X0_find_y hB' hR hI hk8 he) rfl ?_
        refine J_ast S_X0_allDebts rfl rfl ?_
        refine J_ald S_X0_allDebts rfl rfl ?_
        refine J_nuS S_X0_allDebts rfl ?_
        refine J_ild S_X0_allDebts rfl rfl ?_
        refine J_ald S_X0_allDebts rfl rfl ?_
        refine J_getI S_X0_allDebts rfl (by assumption) (by omega) ?_
        refine J_bin S_X0_allDebts rfl ?_
        refine J_ist S_X0_allDebts rfl rfl ?_
        refine J_inc S_X0_allDebts rfl rfl rfl ?_
        refine J_goto S_X0_allDebts rfl ?_
        rw [← nI_succ, ← e]
        exact ih (k + 1) _ (by omega)
  refine J_C S_X0_allDebts rfl ?_
  refine J_ist S_X0_allDebts rfl rfl ?_
  refine J_C S_X0_allDebts rfl ?_
  refine J_ist S_X0_allDebts rfl rfl ?_
  exact key 8 0 _ rfl
theorem C_X0_allNeeds (hB : mj_isB b) (hR : RB I b v) (hI : IV v) : mj_R D_X0_allNeeds [.inr (some b)] (mj_w I) (mj_ex (some (.inl (sm (ex v) (need v) 8))) I) := by
  have hB' := hB
  obtain ⟨h0, h1, h2, h3, h4, h5, h6, hv, hb⟩ := hB
  refine mj_enter (by decide +kernel) (Nat.le_of_ble_eq_true rfl) ?_
  have key : ∀ (n k : Nat) (q : Option mj_V), k + n = 8 → mj_J D_X0_allNeeds (mj_ex (some (.inl (sm (ex v) (need v) 8))) I) 4 [some (.inr (some b)), some (.inl (sm (ex v) (need v) k)), some (.inl (nI k)), q] [] (mj_w I) (0, 0) := by
    intro n
    induction n with
    | zero =>
      intro k q hk
      obtain rfl : k = 8 := by omega
      refine J_ild S_X0_allNeeds rfl rfl ?_
      refine J_C S_X0_allNeeds rfl ?_
      refine J_cmp S_X0_allNeeds rfl (fun c7 => ?_) (fun c7 => False.elim (c7 (by decide)))
      refine J_ild S_X0_allNeeds rfl rfl ?_
      refine J_retI S_X0_allNeeds rfl ?_
      exact ⟨rfl, rfl⟩
    | succ n ih =>
      intro k q hk
      have hk8 : k < 8 := by omega
      rcases hI.b01 hk8 with he | he
      · have e : sm (ex v) (need v) (k + 1) = sm (ex v) (need v) k := by rw [sm, ex_f he]; rfl
        refine J_ild S_X0_allNeeds rfl rfl ?_
        refine J_C S_X0_allNeeds rfl ?_
        refine J_cmp S_X0_allNeeds rfl (fun c7 => False.elim (nI_ge (b := 8) hk8 (by decide) c7)) (fun c7 => ?_)
        refine J_ald S_X0_allNeeds rfl rfl ?_
        refine J_ild S_X0_allNeeds rfl rfl ?_
        refine J_CVx S_X0_allNeeds rfl rfl (by assumption) (by omega) (by simp) (C_X0_find_n hB' hR hI hk8 he) rfl ?_
        refine J_ast S_X0_allNeeds rfl rfl ?_
        refine J_ald S_X0_allNeeds rfl rfl ?_
        refine J_nuN S_X0_allNeeds rfl ?_
        refine J_inc S_X0_allNeeds rfl rfl rfl ?_
        refine J_goto S_X0_allNeeds rfl ?_
        rw [← nI_succ, ← e]
        exact ih (k + 1) _ (by omega)
      · have e : sm (ex v) (need v) (k + 1) = sm (ex v) (need v) k + need v k := by rw [sm, ex_t he]; rfl
        refine J_ild S_X0_allNeeds rfl rfl ?_
        refine J_C S_X0_allNeeds rfl ?_
        refine J_cmp S_X0_allNeeds rfl (fun c7 => False.elim (nI_ge (b := 8) hk8 (by decide) c7)) (fun c7 => ?_)
        refine J_ald S_X0_allNeeds rfl rfl ?_
        refine J_ild S_X0_allNeeds rfl rfl ?_
        refine J_CVx S_X0_allNeeds rfl rfl (by assumption) (by omega) (by simp) (C_X0_find_y hB' hR hI hk8 he) rfl ?_
        refine J_ast S_X0_allNeeds rfl rfl ?_
        refine J_ald S_X0_allNeeds rfl rfl ?_
        refine J_nuS S_X0_allNeeds rfl ?_
        refine J_ild S_X0_allNeeds rfl rfl ?_
        refine J_ald S_X0_allNeeds rfl rfl ?_
        refine J_ald S_X0_allNeeds rfl rfl ?_
        refine J_CVx S_X0_allNeeds rfl rfl (by assumption) (by omega) (by simp) (C_X0_need hB' hR hI hk8 he) rfl ?_
        refine J_bin S_X0_allNeeds rfl ?_
        refine J_ist S_X0_allNeeds rfl rfl ?_
        refine J_inc S_X0_allNeeds rfl rfl rfl ?_
        refine J_goto S_X0_allNeeds rfl ?_
        rw [← nI_succ, ← e]
        exact ih (k + 1) _ (by omega)
  refine J_C S_X0_allNeeds rfl ?_
  refine J_ist S_X0_allNeeds rfl rfl ?_
  refine J_C S_X0_allNeeds rfl ?_
  refine J_ist S_X0_allNeeds rfl rfl ?_
  exact key 8 0 _ rfl
theorem C_X0_isPart (hB : mj_isB b) (hR : RB I b v) (hI : IV v) {x : Int32} : mj_R D_X0_isPart [.inr (some b), .inl x] (mj_w I) (mj_ex (some (.inl (bi (anyB (made v x) 8)))) I) := by
  have hB' := hB
  obtain ⟨h0, h1, h2, h3, h4, h5, h6, hv, hb⟩ := hB
  refine mj_enter (by decide +kernel) (Nat.le_of_ble_eq_true rfl) ?_
  have aM : ∀ (m n : Nat), n ≤ m → anyB (made v x) n = true → anyB (made v x) m = true := by
    intro m
    induction m with
    | zero => intro n hn h; rw [show n = 0 by omega] at h; exact h
    | succ m ih =>
      intro n hn h
      rcases Nat.lt_or_ge m n with g | g
      · rw [show n = m + 1 by omega] at h; exact h
      · rw [anyB, ih n g h]; rfl
  have key : ∀ (n k : Nat) (q : Option mj_V), k + n = 8 → anyB (made v x) k = false → mj_J D_X0_isPart (mj_ex (some (.inl (bi (anyB (made v x) 8)))) I) 2 [some (.inr (some b)), some (.inl x), some (.inl (nI k)), q] [] (mj_w I) (0, 0) := by
    intro n
    induction n with
    | zero =>
      intro k q hk hf
      obtain rfl : k = 8 := by omega
      refine J_ild S_X0_isPart rfl rfl ?_
      refine J_C S_X0_isPart rfl ?_
      refine J_cmp S_X0_isPart rfl (fun c5 => ?_) (fun c5 => False.elim (c5 (by decide)))
      refine J_C S_X0_isPart rfl ?_
      refine J_retZ S_X0_isPart rfl (by decide) ?_
      rw [hf]; exact ⟨rfl, rfl⟩
    | succ n ih =>
      intro k q hk hf
      have hk8 : k < 8 := by omega
      rcases hI.b01 hk8 with he | he
      · have e : anyB (made v x) (k + 1) = false := by rw [anyB, hf, made, ex_f he]; rfl
        refine J_ild S_X0_isPart rfl rfl ?_
        refine J_C S_X0_isPart rfl ?_
        refine J_cmp S_X0_isPart rfl (fun c5 => False.elim (nI_ge (b := 8) hk8 (by decide) c5)) (fun c5 => ?_)
        refine J_ald S_X0_isPart rfl rfl ?_
        refine J_ild S_X0_isPart rfl rfl ?_
        refine J_CVx S_X0_isPart rfl rfl (by assumption) (by omega) (by simp) (C_X0_find_n hB' hR hI hk8 he) rfl ?_
        refine J_ast S_X0_isPart rfl rfl ?_
        refine J_ald S_X0_isPart rfl rfl ?_
        refine J_nuN S_X0_isPart rfl ?_
        refine J_inc S_X0_isPart rfl rfl rfl ?_
        refine J_goto S_X0_isPart rfl ?_
        rw [← nI_succ]
        exact ih (k + 1) _ (by omega) e
      · have hvk := hv k hk8
        obtain ⟨r1, r2, r3, r4, r5, r6, r7, r8, r9, r10⟩ := (hR.2.2.2.2 k hk8).2.2 he
        have hm := C_X8_isMadeOf (I := I) (x := x) hvk (by omega)
        rw [r1, r3, r4] at hm
        by_cases hp : vk v k 0 = 4 ∧ (vk v k 2 = x ∨ vk v k 3 = x)
        · rw [if_pos hp] at hm
          have e : anyB (made v x) (k + 1) = true := by rw [anyB, made, ex_t he, decide_eq_true hp.1, ← Bool.decide_or, decide_eq_true hp.2]; simp
          refine J_ild S_X0_isPart rfl rfl ?_
          refine J_C S_X0_isPart rfl ?_
          refine J_cmp S_X0_isPart rfl (fun c5 => False.elim (nI_ge (b := 8) hk8 (by decide) c5)) (fun c5 => ?_)
          refine J_ald S_X0_isPart rfl rfl ?_
          refine J_ild S_X0_isPart rfl rfl ?_
          refine J_CVx S_X0_isPart rfl rfl (by assumption) (by omega) (by simp) (C_X0_find_y hB' hR hI hk8 he) rfl ?_
          refine J_ast S_X0_isPart rfl rfl ?_
          refine J_ald S_X0_isPart rfl rfl ?_
          refine J_nuS S_X0_isPart rfl ?_
          refine J_ald S_X0_isPart rfl rfl ?_
          refine J_ild S_X0_isPart rfl rfl ?_
          refine J_CVx S_X0_isPart rfl rfl (by assumption) (by omega) (by simp) (hm) rfl ?_
          refine J_if S_X0_isPart rfl (fun c23 => False.elim (absurd c23 (by decide))) (fun c23 => ?_)
          refine J_C S_X0_isPart rfl ?_
          refine J_retZ S_X0_isPart rfl (by decide) ?_
          rw [aM 8 (k + 1) (by omega) e]; exact ⟨rfl, rfl⟩
        · rw [if_neg hp] at hm
          have e : anyB (made v x) (k + 1) = false := by
            rw [anyB, hf, made, ex_t he, ← Bool.decide_or, ← Bool.decide_and, decide_eq_false hp]; rfl
          refine J_ild S_X0_isPart rfl rfl ?_
          refine J_C S_X0_isPart rfl ?_
          refine J_cmp S_X0_isPart rfl (fun c5 => False.elim (nI_ge (b := 8) hk8 (by decide) c5)) (fun c5 => ?_)
          refine J_ald S_X0_isPart rfl rfl ?_
          refine J_ild S_X0_isPart rfl rfl ?_
          refine J_CVx S_X0_isPart rfl rfl (by assumption) (by omega) (by simp) (C_X0_find_y hB' hR hI hk8 he) rfl ?_
          refine J_ast S_X0_isPart rfl rfl ?_
          refine J_ald S_X0_isPart rfl rfl ?_
          refine J_nuS S_X0_isPart rfl ?_
          refine J_ald S_X0_isPart rfl rfl ?_
          refine J_ild S_X0_isPart rfl rfl ?_
          refine J_CVx S_X0_isPart rfl rfl (by assumption) (by omega) (by simp) (hm) rfl ?_
          refine J_if S_X0_isPart rfl (fun c23 => ?_) (fun c23 => False.elim (c23 rfl))
          refine J_inc S_X0_isPart rfl rfl rfl ?_
          refine J_goto S_X0_isPart rfl ?_
          rw [← nI_succ]
          exact ih (k + 1) _ (by omega) e
  refine J_C S_X0_isPart rfl ?_
  refine J_ist S_X0_isPart rfl rfl ?_
  exact key 8 0 _ rfl rfl
theorem C_X0_allows (hB : mj_isB b) (hR : RB I b v) (hI : IV v) {kd x y : Int32} : mj_R D_X0_allows [.inr (some b), .inl kd, .inl x, .inl y] (mj_w I) (mj_ex (some (.inl (bi (if kd = 4 then (!decide (x = y)) && (isV v x && isV v y) else decide (x ≤ y) && decide (y < 12))))) I) := by
  have hB' := hB
  obtain ⟨h0, h1, h2, h3, h4, h5, h6, hv, hb⟩ := hB
  refine mj_enter (by decide +kernel) (Nat.le_of_ble_eq_true rfl) ?_
  have hx := C_X0_find (x := x) hB' (fun k hk => (hR.2.2.2.2 k hk).1) (fun k hk => hI.b01 hk)
  have hy := C_X0_find (x := y) hB' (fun k hk => (hR.2.2.2.2 k hk).1) (fun k hk => hI.b01 hk)
  cases ex : isV v x <;> cases ey : isV v y <;> rw [ex] at hx <;> rw [ey] at hy
  · refine J_ild S_X0_allows rfl rfl ?_
    refine J_C S_X0_allows rfl ?_
    refine J_cmp S_X0_allows rfl (fun c2 => ?_) (fun c2 => ?_)
    · refine J_ild S_X0_allows rfl rfl ?_
      refine J_ild S_X0_allows rfl rfl ?_
      refine J_cmp S_X0_allows rfl (fun c34 => ?_) (fun c34 => ?_)
      · refine J_C S_X0_allows rfl ?_
        refine J_retZ S_X0_allows rfl (by decide) ?_
        rw [if_neg c2, decide_eq_false (Int32.not_le.mpr c34)]; exact ⟨rfl, rfl⟩
      · refine J_ild S_X0_allows rfl rfl ?_
        refine J_C S_X0_allows rfl ?_
        refine J_cmp S_X0_allows rfl (fun c40 => ?_) (fun c40 => ?_)
        · refine J_C S_X0_allows rfl ?_
          refine J_retZ S_X0_allows rfl (by decide) ?_
          rw [if_neg c2, decide_eq_false (Int32.not_lt.mpr c40), Bool.and_false]; exact ⟨rfl, rfl⟩
        · refine J_C S_X0_allows rfl ?_
          refine J_goto S_X0_allows rfl ?_
          refine J_retZ S_X0_allows rfl (by decide) ?_
          rw [if_neg c2, decide_eq_true (Int32.not_lt.mp c34), decide_eq_true (Int32.not_le.mp c40)]; exact ⟨rfl, rfl⟩
    · refine J_ild S_X0_allows rfl rfl ?_
      refine J_ild S_X0_allows rfl rfl ?_
      refine J_cmp S_X0_allows rfl (fun c7 => ?_) (fun c7 => ?_)
      · refine J_C S_X0_allows rfl ?_
        refine J_retZ S_X0_allows rfl (by decide) ?_
        rw [if_pos c2, decide_eq_true c7]; exact ⟨rfl, rfl⟩
      · refine J_ald S_X0_allows rfl rfl ?_
        refine J_ild S_X0_allows rfl rfl ?_
        refine J_CVx S_X0_allows rfl rfl (by assumption) (by omega) (by simp) (hx) rfl ?_
        refine J_nuN S_X0_allows rfl ?_
        refine J_C S_X0_allows rfl ?_
        refine J_retZ S_X0_allows rfl (by decide) ?_
        rw [if_pos c2, Bool.false_and, Bool.and_false]; exact ⟨rfl, rfl⟩
  · refine J_ild S_X0_allows rfl rfl ?_
    refine J_C S_X0_allows rfl ?_
    refine J_cmp S_X0_allows rfl (fun c2 => ?_) (fun c2 => ?_)
    · refine J_ild S_X0_allows rfl rfl ?_
      refine J_ild S_X0_allows rfl rfl ?_
      refine J_cmp S_X0_allows rfl (fun c34 => ?_) (fun c34 => ?_)
      · refine J_C S_X0_allows rfl ?_
        refine J_retZ S_X0_allows rfl (by decide) ?_
        rw [if_neg c2, decide_eq_false (Int32.not_le.mpr c34)]; exact ⟨rfl, rfl⟩
      · refine J_ild S_X0_allows rfl rfl ?_
        refine J_C S_X0_allows rfl ?_
        refine J_cmp S_X0_allows rfl (fun c40 => ?_) (fun c40 => ?_)
        · refine J_C S_X0_allows rfl ?_
          refine J_retZ S_X0_allows rfl (by decide) ?_
          rw [if_neg c2, decide_eq_false (Int32.not_lt.mpr c40), Bool.and_false]; exact ⟨rfl, rfl⟩
        · refine J_C S_X0_allows rfl ?_
          refine J_goto S_X0_allows rfl ?_
          refine J_retZ S_X0_allows rfl (by decide) ?_
          rw [if_neg c2, decide_eq_true (Int32.not_lt.mp c34), decide_eq_true (Int32.not_le.mp c40)]; exact ⟨rfl, rfl⟩
    · refine J_ild S_X0_allows rfl rfl ?_
      refine J_ild S_X0_allows rfl rfl ?_
      refine J_cmp S_X0_allows rfl (fun c7 => ?_) (fun c7 => ?_)
      · refine J_C S_X0_allows rfl ?_
        refine J_retZ S_X0_allows rfl (by decide) ?_
        rw [if_pos c2, decide_eq_true c7]; exact ⟨rfl, rfl⟩
      · refine J_ald S_X0_allows rfl rfl ?_
        refine J_ild S_X0_allows rfl rfl ?_
        refine J_CVx S_X0_allows rfl rfl (by assumption) (by omega) (by simp) (hx) rfl ?_
        refine J_nuN S_X0_allows rfl ?_
        refine J_C S_X0_allows rfl ?_
        refine J_retZ S_X0_allows rfl (by decide) ?_
        rw [if_pos c2, Bool.false_and, Bool.and_false]; exact ⟨rfl, rfl⟩
  · refine J_ild S_X0_allows rfl rfl ?_
    refine J_C S_X0_allows rfl ?_
    refine J_cmp S_X0_allows rfl (fun c2 => ?_) (fun c2 => ?_)
    · refine J_ild S_X0_allows rfl rfl ?_
      refine J_ild S_X0_allows rfl rfl ?_
      refine J_cmp S_X0_allows rfl (fun c34 => ?_) (fun c34 => ?_)
      · refine J_C S_X0_allows rfl ?_
        refine J_retZ S_X0_allows rfl (by decide) ?_
        rw [if_neg c2, decide_eq_false (Int32.not_le.mpr c34)]; exact ⟨rfl, rfl⟩
      · refine J_ild S_X0_allows rfl rfl ?_
        refine J_C S_X0_allows rfl ?_
        refine J_cmp S_X0_allows rfl (fun c40 => ?_) (fun c40 => ?_)
        · refine J_C S_X0_allows rfl ?_
          refine J_retZ S_X0_allows rfl (by decide) ?_
          rw [if_neg c2, decide_eq_false (Int32.not_lt.mpr c40), Bool.and_false]; exact ⟨rfl, rfl⟩
        · refine J_C S_X0_allows rfl ?_
          refine J_goto S_X0_allows rfl ?_
          refine J_retZ S_X0_allows rfl (by decide) ?_
          rw [if_neg c2, decide_eq_true (Int32.not_lt.mp c34), decide_eq_true (Int32.not_le.mp c40)]; exact ⟨rfl, rfl⟩
    · refine J_ild S_X0_allows rfl rfl ?_
      refine J_ild S_X0_allows rfl rfl ?_
      refine J_cmp S_X0_allows rfl (fun c7 => ?_) (fun c7 => ?_)
      · refine J_C S_X0_allows rfl ?_
        refine J_retZ S_X0_allows rfl (by decide) ?_
        rw [if_pos c2, decide_eq_true c7]; exact ⟨rfl, rfl⟩
      · refine J_ald S_X0_allows rfl rfl ?_
        refine J_ild S_X0_allows rfl rfl ?_
        refine J_CVx S_X0_allows rfl rfl (by assumption) (by omega) (by simp) (hx) rfl ?_
        refine J_nuS S_X0_allows rfl ?_
        refine J_ald S_X0_allows rfl rfl ?_
        refine J_ild S_X0_allows rfl rfl ?_
        refine J_CVx S_X0_allows rfl rfl (by assumption) (by omega) (by simp) (hy) rfl ?_
        refine J_nuN S_X0_allows rfl ?_
        refine J_C S_X0_allows rfl ?_
        refine J_retZ S_X0_allows rfl (by decide) ?_
        rw [if_pos c2, Bool.and_false, Bool.and_false]; exact ⟨rfl, rfl⟩
  · refine J_ild S_X0_allows rfl rfl ?_
    refine J_C S_X0_allows rfl ?_
    refine J_cmp S_X0_allows rfl (fun c2 => ?_) (fun c2 => ?_)
    · refine J_ild S_X0_allows rfl rfl ?_
      refine J_ild S_X0_allows rfl rfl ?_
      refine J_cmp S_X0_allows rfl (fun c34 => ?_) (fun c34 => ?_)
      · refine J_C S_X0_allows rfl ?_
        refine J_retZ S_X0_allows rfl (by decide) ?_
        rw [if_neg c2, decide_eq_false (Int32.not_le.mpr c34)]; exact ⟨rfl, rfl⟩
      · refine J_ild S_X0_allows rfl rfl ?_
        refine J_C S_X0_allows rfl ?_
        refine J_cmp S_X0_allows rfl (fun c40 => ?_) (fun c40 => ?_)
        · refine J_C S_X0_allows rfl ?_
          refine J_retZ S_X0_allows rfl (by decide) ?_
          rw [if_neg c2, decide_eq_false (Int32.not_lt.mpr c40), Bool.and_false]; exact ⟨rfl, rfl⟩
        · refine J_C S_X0_allows rfl ?_
          refine J_goto S_X0_allows rfl ?_
          refine J_retZ S_X0_allows rfl (by decide) ?_
          rw [if_neg c2, decide_eq_true (Int32.not_lt.mp c34), decide_eq_true (Int32.not_le.mp c40)]; exact ⟨rfl, rfl⟩
    · refine J_ild S_X0_allows rfl rfl ?_
      refine J_ild S_X0_allows rfl rfl ?_
      refine J_cmp S_X0_allows rfl (fun c7 => ?_) (fun c7 => ?_)
      · refine J_C S_X0_allows rfl ?_
        refine J_retZ S_X0_allows rfl (by decide) ?_
        rw [if_pos c2, decide_eq_true c7]; exact ⟨rfl, rfl⟩
      · refine J_ald S_X0_allows rfl rfl ?_
        refine J_ild S_X0_allows rfl rfl ?_
        refine J_CVx S_X0_allows rfl rfl (by assumption) (by omega) (by simp) (hx) rfl ?_
        refine J_nuS S_X0_allows rfl ?_
        refine J_ald S_X0_allows rfl rfl ?_
        refine J_ild S_X0_allows rfl rfl ?_
        refine J_CVx S_X0_allows rfl rfl (by assumption) (by omega) (by simp) (hy) rfl ?_
        refine J_nuS S_X0_allows rfl ?_
        refine J_C S_X0_allows rfl ?_
        refine J_goto S_X0_allows rfl ?_
        refine J_retZ S_X0_allows rfl (by decide) ?_
        rw [if_pos c2, decide_eq_false c7]; exact ⟨rfl, rfl⟩
end Bk2
