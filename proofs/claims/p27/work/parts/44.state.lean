def mj_isS (s : Nat) : Prop := mj_sh s = (5, 3) ∧ mj_isB (s + 1) ∧ mj_sh (s + 16) = (14, 2) ∧ mj_sh (s + 17) = (12, 2) ∧ (∀ q, q < 2 → mj_isB (s + 16 + 2 + 15 * q)) ∧ s + 48 ≤ 313
def ZB (v : mv) : Prop := ∀ k, k < 8 → vk v k 4 = 1 → vk v k 5 = 1 → vk v k 7 = 0
/-- a slot's vector -/
def sl (w : mv) (q : Nat) : mv := fun j => w (688 + 688 * q + j)
def RS (I : mj_I) (s : Nat) (w : mv) : Prop :=
  RB I (s + 1) w ∧ IV w ∧ ZB w ∧ ∀ q, q < 2 → I (s + 17) q = w (687 + 688 * q) ∧ (w (687 + 688 * q) = 0 ∨ w (687 + 688 * q) = 1) ∧ (w (687 + 688 * q) = 1 → RB I (s + 16 + 2 + 15 * q) (sl w q) ∧ IV (sl w q) ∧ ZB (sl w q))
/-- what isn't the state's stays -/
def Fs (s : Nat) (I I' : mj_I) : Prop := ∀ o, (o < s ∨ s + 48 ≤ o) → I' o = I o
section St
variable {I : mj_I} {s : Nat} {w v : mv}
theorem RS_fr {I' : mj_I} (h : RS I s w) (hF : ∀ o, s ≤ o → o < s + 48 → I' o = I o) : RS I' s w := by
  obtain ⟨h1, h2, h3, h4⟩ := h
  refine ⟨RB_fr (fun o g1 g2 => hF o (by omega) (by omega)) h1, h2, h3, fun q hq => ?_⟩
  obtain ⟨a, b, c⟩ := h4 q hq
  refine ⟨by rw [hF _ (by omega) (by omega)]; exact a, b, fun e => ?_⟩
  obtain ⟨x, y, z⟩ := c e
  exact ⟨RB_fr (fun o g1 g2 => hF o (by omega) (by omega)) x, y, z⟩
theorem C_X5_isTaken (hS : mj_isS s) {q : Nat} (hq : q < 2) : mj_R D_X5_isTaken [.inr (some s), .inl (nI q)] (mj_w I) (mj_ex (some (.inl (if I (s + 17) q = 0 then 0 else 1))) I) := by
  obtain ⟨h0, h1, h2, h3, h4, h5⟩ := hS
  refine mj_enter (by decide +kernel) (Nat.le_of_ble_eq_true rfl) ?_
  by_cases c : I (s + 17) q = 0
  · refine J_ild S_X5_isTaken rfl rfl ?_
    refine J_if S_X5_isTaken rfl (fun c1 => False.elim (nI_pos (by omega) c1)) (fun c1 => ?_)
    refine J_ild S_X5_isTaken rfl rfl ?_
    refine J_ald S_X5_isTaken rfl rfl ?_
    refine J_getR S_X5_isTaken rfl (by assumption) (by omega) rfl ?_
    refine J_len S_X5_isTaken rfl (by assumption) (by omega) (by decide) ?_
    refine J_cmp S_X5_isTaken rfl (fun c10 => False.elim (nI_ge (b := 2) hq (by decide) c10)) (fun c10 => ?_)
    refine J_ald S_X5_isTaken rfl rfl ?_
    refine J_getR S_X5_isTaken rfl (by assumption) (by omega) rfl ?_
    refine J_ild S_X5_isTaken rfl rfl ?_
    refine J_zald S_X5_isTaken rfl (by assumption) (by omega) rfl (by omega) (by decide) ?_
    refine J_if S_X5_isTaken rfl (fun c19 => ?_) (fun c19 => False.elim (c19 c))
    refine J_C S_X5_isTaken rfl ?_
    refine J_retZ S_X5_isTaken rfl (by decide) ?_
    rw [if_pos c]; exact ⟨rfl, rfl⟩
  · refine J_ild S_X5_isTaken rfl rfl ?_
    refine J_if S_X5_isTaken rfl (fun c1 => False.elim (nI_pos (by omega) c1)) (fun c1 => ?_)
    refine J_ild S_X5_isTaken rfl rfl ?_
    refine J_ald S_X5_isTaken rfl rfl ?_
    refine J_getR S_X5_isTaken rfl (by assumption) (by omega) rfl ?_
    refine J_len S_X5_isTaken rfl (by assumption) (by omega) (by decide) ?_
    refine J_cmp S_X5_isTaken rfl (fun c10 => False.elim (nI_ge (b := 2) hq (by decide) c10)) (fun c10 => ?_)
    refine J_ald S_X5_isTaken rfl rfl ?_
    refine J_getR S_X5_isTaken rfl (by assumption) (by omega) rfl ?_
    refine J_ild S_X5_isTaken rfl rfl ?_
    refine J_zald S_X5_isTaken rfl (by assumption) (by omega) rfl (by omega) (by decide) ?_
    refine J_if S_X5_isTaken rfl (fun c19 => False.elim (c c19)) (fun c19 => ?_)
    refine J_C S_X5_isTaken rfl ?_
    refine J_goto S_X5_isTaken rfl ?_
    refine J_retZ S_X5_isTaken rfl (by decide) ?_
    rw [if_neg c]; exact ⟨rfl, rfl⟩
theorem C_X5_snapshots (hS : mj_isS s) : mj_R D_X5_snapshots [.inr (some s)] (mj_w I) (mj_ex (some (.inl ((if I (s + 17) 0 = 0 then 0 else 1) + (if I (s + 17) 1 = 0 then 0 else 1)))) I) := by
  have hS' := hS
  obtain ⟨h0, h1, h2, h3, h4, h5⟩ := hS
  have t0 := C_X5_isTaken (I := I) hS' (q := 0) (by decide)
  have t1 := C_X5_isTaken (I := I) hS' (q := 1) (by decide)
  refine mj_enter (by decide +kernel) (Nat.le_of_ble_eq_true rfl) ?_
  have fin : ∀ x, mj_J D_X5_snapshots (mj_ex (some (.inl x)) I) 4 [some (.inr (some s)), some (.inl x), some (.inl 2)] [] (mj_w I) (0, 0) := by
    intro x
    refine J_ild S_X5_snapshots rfl rfl ?_
    refine J_C S_X5_snapshots rfl ?_
    refine J_cmp S_X5_snapshots rfl (fun c6 => ?_) (fun c6 => False.elim (c6 (by decide)))
    refine J_ild S_X5_snapshots rfl rfl ?_
    refine J_retI S_X5_snapshots rfl ?_
    exact ⟨rfl, rfl⟩
  have mid : ∀ x, mj_J D_X5_snapshots (mj_ex (some (.inl (x + (if I (s + 17) 1 = 0 then 0 else 1)))) I) 4 [some (.inr (some s)), some (.inl x), some (.inl 1)] [] (mj_w I) (0, 0) := by
    intro x
    by_cases c : I (s + 17) 1 = 0
    · rw [if_pos c] at t1
      rw [if_pos c, Int32.add_zero]
      refine J_ild S_X5_snapshots rfl rfl ?_
      refine J_C S_X5_snapshots rfl ?_
      refine J_cmp S_X5_snapshots rfl (fun c6 => False.elim (absurd c6 (by decide))) (fun c6 => ?_)
      refine J_ald S_X5_snapshots rfl rfl ?_
      refine J_ild S_X5_snapshots rfl rfl ?_
      refine J_CVx S_X5_snapshots rfl rfl (by assumption) (by omega) (by simp) (t1) rfl ?_
      refine J_if S_X5_snapshots rfl (fun c14 => ?_) (fun c14 => False.elim (c14 rfl))
      refine J_inc S_X5_snapshots rfl rfl rfl ?_
      refine J_goto S_X5_snapshots rfl ?_
      exact fin x
    · rw [if_neg c] at t1
      rw [if_neg c]
      refine J_ild S_X5_snapshots rfl rfl ?_
      refine J_C S_X5_snapshots rfl ?_
      refine J_cmp S_X5_snapshots rfl (fun c6 => False.elim (absurd c6 (by decide))) (fun c6 => ?_)
      refine J_ald S_X5_snapshots rfl rfl ?_
      refine J_ild S_X5_snapshots rfl rfl ?_
      refine J_CVx S_X5_snapshots rfl rfl (by assumption) (by omega) (by simp) (t1) rfl ?_
      refine J_if S_X5_snapshots rfl (fun c14 => False.elim (absurd c14 (by decide))) (fun c14 => ?_)
      refine J_inc S_X5_snapshots rfl rfl rfl ?_
      refine J_inc S_X5_snapshots rfl rfl rfl ?_
      refine J_goto S_X5_snapshots rfl ?_
      exact fin _
  by_cases c : I (s + 17) 0 = 0
  · rw [if_pos c] at t0
    rw [if_pos c]
    have g : mj_J D_X5_snapshots (mj_ex (some (.inl (0 + (if I (s + 17) 1 = 0 then 0 else 1)))) I) 4 [some (.inr (some s)), some (.inl 0), some (.inl 0)] [] (mj_w I) (0, 0) := by
      refine J_ild S_X5_snapshots rfl rfl ?_
      refine J_C S_X5_snapshots rfl ?_
      refine J_cmp S_X5_snapshots rfl (fun c6 => False.elim (absurd c6 (by decide))) (fun c6 => ?_)
      refine J_ald S_X5_snapshots rfl rfl ?_
      refine J_ild S_X5_snapshots rfl rfl ?_
      refine J_CVx S_X5_snapshots rfl rfl (by assumption) (by omega) (by simp) (t0) rfl ?_
      refine J_if S_X5_snapshots rfl (fun c14 => ?_) (fun c14 => False.elim (c14 rfl))
      refine J_inc S_X5_snapshots rfl rfl rfl ?_
      refine J_goto S_X5_snapshots rfl ?_
      exact mid 0
    refine J_C S_X5_snapshots rfl ?_
    refine J_ist S_X5_snapshots rfl rfl ?_
    refine J_C S_X5_snapshots rfl ?_
    refine J_ist S_X5_snapshots rfl rfl ?_
    exact g
  · rw [if_neg c] at t0
    rw [if_neg c]
    have g : mj_J D_X5_snapshots (mj_ex (some (.inl (1 + (if I (s + 17) 1 = 0 then 0 else 1)))) I) 4 [some (.inr (some s)), some (.inl 0), some (.inl 0)] [] (mj_w I) (0, 0) := by
      refine J_ild S_X5_snapshots rfl rfl ?_
      refine J_C S_X5_snapshots rfl ?_
      refine J_cmp S_X5_snapshots rfl (fun c6 => False.elim (absurd c6 (by decide))) (fun c6 => ?_)
      refine J_ald S_X5_snapshots rfl rfl ?_
      refine J_ild S_X5_snapshots rfl rfl ?_
      refine J_CVx S_X5_snapshots rfl rfl (by assumption) (by omega) (by simp) (t0) rfl ?_
      refine J_if S_X5_snapshots rfl (fun c14 => False.elim (absurd c14 (by decide))) (fun c14 => ?_)
      refine J_inc S_X5_snapshots rfl rfl rfl ?_
      refine J_inc S_X5_snapshots rfl rfl rfl ?_
      refine J_goto S_X5_snapshots rfl ?_
      exact mid 1
    refine J_C S_X5_snapshots rfl ?_
    refine J_ist S_X5_snapshots rfl rfl ?_
    refine J_C S_X5_snapshots rfl ?_
    refine J_ist S_X5_snapshots rfl rfl ?_
    exact g
theorem C_X5_snapshot (hS : mj_isS s) {q : Nat} (hq : q < 2) : mj_R D_X5_snapshot [.inr (some s), .inl (nI q)] (mj_w I) (mj_ex (some (.inr (if I (s + 17) q = 0 then none else some (s + 16 + 2 + 15 * q)))) I) := by
  have hS' := hS
  obtain ⟨h0, h1, h2, h3, h4, h5⟩ := hS
  have t := C_X5_isTaken (I := I) hS' hq
  refine mj_enter (by decide +kernel) (Nat.le_of_ble_eq_true rfl) ?_
  by_cases c : I (s + 17) q = 0
  · rw [if_pos c] at t
    refine J_ald S_X5_snapshot rfl rfl ?_
    refine J_ild S_X5_snapshot rfl rfl ?_
    refine J_CVx S_X5_snapshot rfl rfl (by assumption) (by omega) (by simp) (t) rfl ?_
    refine J_if S_X5_snapshot rfl (fun c5 => ?_) (fun c5 => False.elim (c5 rfl))
    refine J_null S_X5_snapshot rfl ?_
    refine J_retA S_X5_snapshot rfl ?_
    rw [if_pos c]; exact ⟨rfl, rfl⟩
  · rw [if_neg c] at t
    refine J_ald S_X5_snapshot rfl rfl ?_
    refine J_ild S_X5_snapshot rfl rfl ?_
    refine J_CVx S_X5_snapshot rfl rfl (by assumption) (by omega) (by simp) (t) rfl ?_
    refine J_if S_X5_snapshot rfl (fun c5 => False.elim (absurd c5 (by decide))) (fun c5 => ?_)
    refine J_ild S_X5_snapshot rfl rfl ?_
    refine J_ald S_X5_snapshot rfl rfl ?_
    refine J_getR S_X5_snapshot rfl (by assumption) (by omega) rfl ?_
    refine J_len S_X5_snapshot rfl (by assumption) (by omega) (by decide) ?_
    refine J_cmp S_X5_snapshot rfl (fun c14 => False.elim (nI_ge (b := 2) hq (by decide) c14)) (fun c14 => ?_)
    refine J_ald S_X5_snapshot rfl rfl ?_
    refine J_getR S_X5_snapshot rfl (by assumption) (by omega) rfl ?_
    refine J_ild S_X5_snapshot rfl rfl ?_
    refine J_aald S_X5_snapshot rfl (by assumption) (by omega) rfl (by omega) (by decide) rfl ?_
    refine J_goto S_X5_snapshot rfl ?_
    refine J_retA S_X5_snapshot rfl ?_
    rw [if_neg c]; exact ⟨rfl, rfl⟩
theorem C_X5_keepIn (hS : mj_isS s) {q b' : Nat} (hq : q < 2) (hB' : mj_isB b') (hd : s + 16 + 2 + 15 * q + 15 ≤ b' ∨ b' + 15 ≤ s + 16 + 2 + 15 * q) (hR : RB I b' v) (hI : IV v) : mj_R D_X5_keepIn [.inr (some s), .inl (nI q), .inr (some b')] (mj_w I) (mj_px (fun r I' => r = none ∧ RB I' (s + 16 + 2 + 15 * q) v ∧ I' (s + 17) = upd (I (s + 17)) q 1 ∧ ∀ o, o ≠ s + 17 → (o < s + 16 + 2 + 15 * q ∨ s + 16 + 2 + 15 * q + 15 ≤ o) → I' o = I o)) := by
  obtain ⟨h0, h1, h2, h3, h4, h5⟩ := hS
  have hcp := C_X0_copyFrom (h4 q hq) hB' hd hR hI
  have k0 := (h4 q hq).1
  refine mj_enter (by decide +kernel) (Nat.le_of_ble_eq_true rfl) ?_
  refine J_ild S_X5_keepIn rfl rfl ?_
  refine J_if S_X5_keepIn rfl (fun c1 => False.elim (nI_pos (by omega) c1)) (fun c1 => ?_)
  refine J_ild S_X5_keepIn rfl rfl ?_
  refine J_ald S_X5_keepIn rfl rfl ?_
  refine J_getR S_X5_keepIn rfl (by assumption) (by omega) rfl ?_
  refine J_len S_X5_keepIn rfl (by assumption) (by omega) (by decide) ?_
  refine J_cmp S_X5_keepIn rfl (fun c10 => False.elim (nI_ge (b := 2) hq (by decide) c10)) (fun c10 => ?_)
  refine J_ild S_X5_keepIn rfl rfl ?_
  refine J_ald S_X5_keepIn rfl rfl ?_
  refine J_getR S_X5_keepIn rfl (by assumption) (by omega) rfl ?_
  refine J_len S_X5_keepIn rfl (by assumption) (by omega) (by decide) ?_
  refine J_cmp S_X5_keepIn rfl (fun c19 => False.elim (nI_ge (b := 2) hq (by decide) c19)) (fun c19 => ?_)
  refine J_ald S_X5_keepIn rfl rfl ?_
  refine J_getR S_X5_keepIn rfl (by assumption) (by omega) rfl ?_
  refine J_ild S_X5_keepIn rfl rfl ?_
  refine J_aald S_X5_keepIn rfl (by assumption) (by omega) rfl (by omega) (by decide) rfl ?_
  refine J_nuS S_X5_keepIn rfl ?_
  refine J_ald S_X5_keepIn rfl rfl ?_
  refine J_getR S_X5_keepIn rfl (by assumption) (by omega) rfl ?_
  refine J_ild S_X5_keepIn rfl rfl ?_
  refine J_aald S_X5_keepIn rfl (by assumption) (by omega) rfl (by omega) (by decide) rfl ?_
  refine J_ald S_X5_keepIn rfl rfl ?_
  refine J_CV S_X5_keepIn rfl rfl (by assumption) (by omega) (by simp) (hcp) ?_
  rintro _ _ ⟨I2, rfl, rfl, hR2, hF2⟩
  refine J_ald S_X5_keepIn rfl rfl ?_
  refine J_getR S_X5_keepIn rfl (by assumption) (by omega) rfl ?_
  refine J_ild S_X5_keepIn rfl rfl ?_
  refine J_C S_X5_keepIn rfl ?_
  refine J_zast S_X5_keepIn rfl (by assumption) (by omega) rfl (by omega) (by decide) (by decide) ?_
  refine J_retV S_X5_keepIn rfl ?_
  refine ⟨_, rfl, rfl, RB_fr (fun o g1 g2 => by rw [mj_up_ne (by omega)]) hR2, by rw [mj_up_eq, hF2 _ (by omega)], fun o g1 g2 => by rw [mj_up_ne g1]; exact hF2 o g2⟩
theorem C_X5_copyFrom (hS : mj_isS s) {s' : Nat} (hS' : mj_isS s') (hd : s + 48 ≤ s' ∨ s' + 48 ≤ s) (hR : RS I s' w) : mj_R D_X5_copyFrom [.inr (some s), .inr (some s')] (mj_w I) (mj_px (fun r I' => r = none ∧ RS I' s w ∧ Fs s I I')) := by
  have hSb := hS
  have hSb' := hS'
  obtain ⟨h0, h1, h2, h3, h4, h5⟩ := hS
  obtain ⟨g0, g1, g2, g3, g4, g5⟩ := hS'
  obtain ⟨R1, R2, R3, R4⟩ := hR
  have hcp := C_X0_copyFrom h1 g1 (by omega) R1 R2
  have k1 := h1.1
  refine mj_enter (by decide +kernel) (Nat.le_of_ble_eq_true rfl) ?_
  have key : ∀ (m q : Nat) (I' : mj_I) (q3 : Option mj_V), q + m = 2 → Fs s I I' → RB I' (s + 1) w → (∀ i, i < q → I' (s + 17) i = w (687 + 688 * i) ∧ (w (687 + 688 * i) = 1 → RB I' (s + 16 + 2 + 15 * i) (sl w i))) →
      mj_J D_X5_copyFrom (mj_px (fun r I' => r = none ∧ RS I' s w ∧ Fs s I I')) 13 [some (.inr (some s)), some (.inr (some s')), some (.inl (nI q)), q3] [] (mj_w I') (0, 0) := by
    intro m
    induction m with
    | zero =>
      intro q I' q3 hq hF hB hK
      obtain rfl : q = 2 := by omega
      refine J_ild S_X5_copyFrom rfl rfl ?_
      refine J_ald S_X5_copyFrom rfl rfl ?_
      refine J_getR S_X5_copyFrom rfl (by assumption) (by omega) rfl ?_
      refine J_len S_X5_copyFrom rfl (by assumption) (by omega) (by decide) ?_
      refine J_cmp S_X5_copyFrom rfl (fun c19 => ?_) (fun c19 => False.elim (c19 (by decide)))
      refine J_retV S_X5_copyFrom rfl ?_
      exact ⟨I', rfl, rfl, ⟨hB, R2, R3, fun i hi => ⟨(hK i hi).1, (R4 i hi).2.1, fun e => ⟨(hK i hi).2 e, ((R4 i hi).2.2 e).2⟩⟩⟩, hF⟩
    | succ m ih =>
      intro q I' q3 hq hF hB hK
      have hq2 : q < 2 := by omega
      obtain ⟨x1, x2, x3⟩ := R4 q hq2
      have hsn := C_X5_snapshot (I := mj_up I' (s + 17) q 0) hSb' hq2
      have ef : mj_up I' (s + 17) q 0 (s' + 17) q = w (687 + 688 * q) := by rw [mj_up_ne (by omega), hF _ (by omega), x1]
      rw [ef] at hsn
      have hF1 : Fs s I (mj_up I' (s + 17) q 0) := fun o ho => by rw [mj_up_ne (by omega)]; exact hF o ho
      have hB1 : RB (mj_up I' (s + 17) q 0) (s + 1) w := RB_fr (fun o _ _ => by rw [mj_up_ne (by omega)]) hB
      rcases x2 with e | e
      · rw [e, if_pos rfl] at hsn
        have g := fun q3 => ih (q + 1) (mj_up I' (s + 17) q 0) q3 (by omega) hF1 hB1 (fun i hi => by
          by_cases c : i = q
          · rw [c]; refine ⟨by rw [mj_up_eq, up_s, e], fun h => by rw [e] at h; exact absurd h (by decide)⟩
          · obtain ⟨y1, y2⟩ := hK i (by omega)
            refine ⟨by rw [mj_up_eq, up_n c]; exact y1, fun h => RB_fr (fun o _ _ => by rw [mj_up_ne (by omega)]) (y2 h)⟩)
        refine J_ild S_X5_copyFrom rfl rfl ?_
        refine J_ald S_X5_copyFrom rfl rfl ?_
        refine J_getR S_X5_copyFrom rfl (by assumption) (by omega) rfl ?_
        refine J_len S_X5_copyFrom rfl (by assumption) (by omega) (by decide) ?_
        refine J_cmp S_X5_copyFrom rfl (fun c19 => False.elim (nI_ge (b := 2) hq2 (by decide) c19)) (fun c19 => ?_)
        refine J_ald S_X5_copyFrom rfl rfl ?_
        refine J_getR S_X5_copyFrom rfl (by assumption) (by omega) rfl ?_
        refine J_ild S_X5_copyFrom rfl rfl ?_
        refine J_C S_X5_copyFrom rfl ?_
        refine J_zast S_X5_copyFrom rfl (by assumption) (by omega) rfl (by omega) (by decide) (by decide) ?_
        refine J_ald S_X5_copyFrom rfl rfl ?_
        refine J_ild S_X5_copyFrom rfl rfl ?_
        refine J_CVx S_X5_copyFrom rfl rfl (by assumption) (by omega) (by simp) (hsn) rfl ?_
        refine J_ast S_X5_copyFrom rfl rfl ?_
        refine J_ald S_X5_copyFrom rfl rfl ?_
        refine J_nuN S_X5_copyFrom rfl ?_
        refine J_inc S_X5_copyFrom rfl rfl rfl ?_
        refine J_goto S_X5_copyFrom rfl ?_
        rw [← nI_succ]
        exact g _
      · rw [e, if_neg (by decide)] at hsn
        obtain ⟨z1, z2, z3⟩ := x3 e
        have hkp := C_X5_keepIn (I := mj_up I' (s + 17) q 0) (v := sl w q) hSb hq2 (g4 q hq2) (by omega) (RB_fr (fun o _ _ => by rw [mj_up_ne (by omega), hF _ (by omega)]) z1) z2
        have g := fun q3 (I2 : mj_I) (hb : RB I2 (s + 16 + 2 + 15 * q) (sl w q)) (ht : I2 (s + 17) = upd (mj_up I' (s + 17) q 0 (s + 17)) q 1) (hf : ∀ o, o ≠ s + 17 → (o < s + 16 + 2 + 15 * q ∨ s + 16 + 2 + 15 * q + 15 ≤ o) → I2 o = mj_up I' (s + 17) q 0 o) => ih (q + 1) I2 q3 (by omega) (fun o ho => by rw [hf o (by omega) (by omega)]; exact hF1 o ho) (RB_fr (fun o _ _ => hf o (by omega) (by omega)) hB1) (fun i hi => by
          by_cases c : i = q
          · rw [c]; exact ⟨by rw [ht, up_s, e], fun _ => hb⟩
          · obtain ⟨y1, y2⟩ := hK i (by omega)
            refine ⟨by rw [ht, up_n c, mj_up_eq, up_n c]; exact y1, fun h => RB_fr (fun o _ _ => by rw [hf o (by omega) (by omega), mj_up_ne (by omega)]) (y2 h)⟩)
        refine J_ild S_X5_copyFrom rfl rfl ?_
        refine J_ald S_X5_copyFrom rfl rfl ?_
        refine J_getR S_X5_copyFrom rfl (by assumption) (by omega) rfl ?_
        refine J_len S_X5_copyFrom rfl (by assumption) (by omega) (by decide) ?_
        refine J_cmp S_X5_copyFrom rfl (fun c19 => False.elim (nI_ge (b := 2) hq2 (by decide) c19)) (fun c19 => ?_)
        refine J_ald S_X5_copyFrom rfl rfl ?_
        refine J_getR S_X5_copyFrom rfl (by assumption) (by omega) rfl ?_
        refine J_ild S_X5_copyFrom rfl rfl ?_
        refine J_C S_X5_copyFrom rfl ?_
        refine J_zast S_X5_copyFrom rfl (by assumption) (by omega) rfl (by omega) (by decide) (by decide) ?_
        refine J_ald S_X5_copyFrom rfl rfl ?_
        refine J_ild S_X5_copyFrom rfl rfl ?_
        refine J_CVx S_X5_copyFrom rfl rfl (by assumption) (by omega) (by simp) (hsn) rfl ?_
        refine J_ast S_X5_copyFrom rfl rfl ?_
        refine J_ald S_X5_copyFrom rfl rfl ?_
        refine J_nuS S_X5_copyFrom rfl ?_
        refine J_ald S_X5_copyFrom rfl rfl ?_
        refine J_ild S_X5_copyFrom rfl rfl ?_
        refine J_ald S_X5_copyFrom rfl rfl ?_
        refine J_CV S_X5_copyFrom rfl rfl (by assumption) (by omega) (by simp) (hkp) ?_
        rintro _ _ ⟨I2, rfl, rfl, hb, ht, hf⟩
        refine J_inc S_X5_copyFrom rfl rfl rfl ?_
        refine J_goto S_X5_copyFrom rfl ?_
        rw [← nI_succ]
        exact g _ I2 hb ht hf
  refine J_ald S_X5_copyFrom rfl rfl ?_
  refine J_getR S_X5_copyFrom rfl (by assumption) (by omega) rfl ?_
  refine J_ald S_X5_copyFrom rfl rfl ?_
  refine J_getR S_X5_copyFrom rfl (by assumption) (by omega) rfl ?_
  refine J_CV S_X5_copyFrom rfl rfl (by assumption) (by omega) (by simp) (hcp) ?_
  rintro _ _ ⟨I2, rfl, rfl, hR2, hF2⟩
  refine J_C S_X5_copyFrom rfl ?_
  refine J_ist S_X5_copyFrom rfl rfl ?_
  exact key 2 0 I2 none rfl (fun o ho => hF2 o (by omega)) hR2 (fun i hi => absurd hi (Nat.not_lt_zero i))
end St
