/-! the class's actions, as the law sees them -/
/-- the accounts add up -/
def AK (w : mv) : Prop := w 3 = w 2 + w 4 + w 5 + w 6
/-- the class's object stands at w; text and history as they may be, the latest state of the history has sound accounts -/
def GS (I : mj_I) (w : mv) : Prop := ∃ p o n L f, CR I w p o n L f ∧ 1 ≤ n ∧ AK (fun j => p (2063 * (n - 1) + j))
/-- the same, of the history nothing said -/
def LKS (I : mj_I) (w : mv) : Prop := ∃ p o n L f, CR I w p o n L f
theorem GS.ls {I : mj_I} {w : mv} (h : GS I w) : LKS I w := by
  obtain ⟨p, o, n, L, f, hc, -⟩ := h
  exact ⟨p, o, n, L, f, hc⟩
theorem LKS_sc {I I1 : mj_I} {w : mv} (h : LKS I w) (hs : SC I I1) : LKS I1 w := by
  obtain ⟨p, o, n, L, f, hc⟩ := h
  exact ⟨p, o, n, L, f, CR_sc hc hs⟩
theorem LKS_IV {I : mj_I} {w : mv} (h : LKS I w) : RB I 5 w ∧ IV w ∧ ZB w := by
  obtain ⟨p, o, n, L, f, hc⟩ := h
  exact ⟨hc.1.1, hc.1.2.1, hc.1.2.2.1⟩
theorem sc_tr {I I1 I2 : mj_I} (h : SC I I1) (h' : SC I1 I2) : SC I I2 := ⟨fun q a b => (h'.1 q a b).trans (h.1 q a b), fun q a => (h'.2 q a).trans (h.2 q a)⟩
theorem GS_sc {I I1 : mj_I} {w : mv} (h : GS I w) (hs : SC I I1) : GS I1 w := by
  obtain ⟨p, o, n, L, f, hc, hn, ha⟩ := h
  exact ⟨p, o, n, L, f, CR_sc hc hs, hn, ha⟩
theorem ntP_at {n : Nat} {p w : mv} {j : Nat} : ntP n p w (2063 * (ntM n + 1 - 1) + j) = w j := by
  unfold ntP
  rw [Nat.add_sub_cancel, if_neg (by omega)]
  exact congrArg w (by omega)
theorem GS_rec {I : mj_I} {w w' p : mv} {o n L : Nat} {f : Nat → Int32} (ha : AK w) (h : CR I w' (ntP n p w) o (ntM n + 1) L f) : GS I w' := by
  refine ⟨_, _, _, _, _, h, Nat.le_add_left 1 _, ?_⟩
  unfold AK at *
  simp only [ntP_at]
  exact ha
/-- what no action but define and put changes -/
def KV (w w' : mv) : Prop := w' 0 = w 0 ∧ w' 1 = w 1 ∧ ∀ k, k < 8 → ∀ q, q < 5 → vk w' k q = vk w k q
theorem KV_rf {w : mv} : KV w w := ⟨rfl, rfl, fun _ _ _ _ => rfl⟩
section Ac
variable {I : mj_I}
theorem GS_IV {w : mv} (h : GS I w) : RB I 5 w ∧ IV w ∧ ZB w := by
  obtain ⟨p, o, n, L, f, hc, -⟩ := h
  exact ⟨hc.1.1, hc.1.2.1, hc.1.2.2.1⟩
theorem X9_put_ok {w p : mv} {o n L : Nat} {f : Nat → Int32} (hc : CR I w p o n L f) {ja jb : Nat} {c : Int32} (hja : ja ≤ 1) (hjb : jb ≤ 11) (q3 : -1 ≤ c ∧ c ≤ 99) (hx : c = -1 ∨ rg c 99) (hl : tn (w 0) < 200) : mj_R D_X9_put [.inr (some 0), .inl (nI ja), .inl (nI jb), .inl c] (mj_w I) (mj_px (fun r I1 => r = some (.inl (nI (tn (w 0)))) ∧ CR I1 (putV w (nI ja) (nI jb) c) (ntP n p w) ((o + ntD n) % 5) (ntM n + 1) L f)) := by
  have m0 := s_0
  have m4 := mj_S4.1
  have m5 := mj_B5.1
  have m6 : mj_sh 6 = (2, 3) := mj_B5.2.1
  have m52 := s_52
  have hR : RB I 5 w := hc.1.1
  have hI : IV w := hc.1.2.1
  have hZ : ZB w := hc.1.2.2.1
  have q1 : 0 ≤ nI ja ∧ nI ja ≤ 1 := ⟨nI_pos' (by omega), nI_le (b := 1) hja (by decide)⟩
  have q2 : 0 ≤ nI jb ∧ nI jb ≤ 11 := ⟨nI_pos' (by omega), nI_le (b := 11) hjb (by decide)⟩
  have hcell := X9_cell (I := I) q1 q2
  have hfl := C_X2_isFull (I := I) mj_B5
  have e0 : I 6 2 = nI (tn (w 0)) := by rw [← hI.1.1]; exact hR.1
  have le := hI.1.2
  have hlow : ¬ c < -1 := Int32.not_lt.mpr q3.1
  rw [if_pos (by rw [show I (5 + 1) 2 = nI (tn (w 0)) from e0]; exact nI_lt (b := 200) hl (by decide))] at hfl
  have ha : rg (nI ja) 1 := rg_nI hja (by decide)
  have hb : rg (nI jb) 11 := rg_nI hjb (by decide)
  refine mj_enter (by decide +kernel) (Nat.le_of_ble_eq_true rfl) ?_
  have hrec := Z_rec hc
  have hco := fun J => C_X9_cellOf (I := J) (x := nI ja) (y := nI jb)
  have ec : nI ja * 12 + nI jb = nI (12 * tn (nI ja) + tn (nI jb)) := by
    rw [tn_nI (by omega), tn_nI (by omega), show (12 : Int32) = nI 12 from rfl, pk_mul, nI_add, Nat.mul_comm]
  refine J_ild S_X9_put rfl rfl ?_
  refine J_ild S_X9_put rfl rfl ?_
  refine J_CSx S_X9_put rfl rfl (by simp) (hcell) rfl ?_
  refine J_if S_X9_put rfl (fun c5 => False.elim (absurd c5 (by decide))) (fun c5 => ?_)
  refine J_ild S_X9_put rfl rfl ?_
  refine J_C S_X9_put rfl ?_
  refine J_cmp S_X9_put rfl (fun c10 => False.elim (hlow c10)) (fun c10 => ?_)
  refine J_ild S_X9_put rfl rfl ?_
  refine J_C S_X9_put rfl ?_
  refine J_cmp S_X9_put rfl (fun c16 => ?_) (fun c16 => False.elim (c16 q3.2))
  refine J_ald S_X9_put rfl rfl ?_
  refine J_getR S_X9_put rfl (o' := 4) (by assumption) (by omega) rfl ?_
  refine J_getR S_X9_put rfl (o' := 5) (by assumption) (by omega) rfl ?_
  refine J_getR S_X9_put rfl (o' := 6) (by assumption) (by omega) rfl ?_
  refine J_ast S_X9_put rfl rfl ?_
  refine J_ald S_X9_put rfl rfl ?_
  refine J_CVx S_X9_put rfl rfl (by assumption) (by omega) (by simp) (hfl) rfl ?_
  refine J_if S_X9_put rfl (fun c39 => ?_) (fun c39 => False.elim (c39 rfl))
  refine J_ald S_X9_put rfl rfl ?_
  refine J_getR S_X9_put rfl (o' := 52) (by assumption) (by omega) rfl ?_
  refine J_ald S_X9_put rfl rfl ?_
  refine J_getR S_X9_put rfl (o' := 4) (by assumption) (by omega) rfl ?_
  refine J_CV S_X9_put rfl rfl (by assumption) (by omega) (by simp) (hrec) ?_
  rintro _ _ ⟨I1, rfl, rfl, hr⟩
  refine J_ald S_X9_put rfl rfl ?_
  refine J_ild S_X9_put rfl rfl ?_
  refine J_ild S_X9_put rfl rfl ?_
  refine J_CSx S_X9_put rfl rfl (by simp) (hco _) rfl ?_
  rw [ec]
  refine J_ild S_X9_put rfl rfl ?_
  refine J_CVx S_X9_put rfl rfl (by assumption) (by omega) (by simp) (C_X2_add mj_B5 (n := tn (w 0)) hl (by rw [hr.1 (5 + 1) (by omega)]; exact e0)) rfl ?_
  refine J_retI S_X9_put rfl ?_
  have g := RC_B hc hr (put_R (RC_R hc hr).1 hI hl ha hb) (fr_up (fr_up (fr_up fr_rf (by omega) (by omega)) (by omega) (by omega)) (by omega) (by omega)) (put_I hI hl ha hb hx) (put_Z hZ hl) (fun i hi => put_h hl hi)
  exact ⟨_, rfl, rfl, g.1⟩
theorem X9_grant_ok {w p : mv} {o n L : Nat} {f : Nat → Int32} (hc : CR I w p o n L f) {ja : Nat} (hja1 : 1 ≤ ja) (hja : ja ≤ 999) (hs : tn (w 2) + ja ≤ 9999) : mj_R D_X9_grant [.inr (some 0), .inl (nI ja)] (mj_w I) (mj_px (fun r I1 => r = some (.inl (w 2 + nI ja)) ∧ CR I1 (upd (upd w 2 (w 2 + nI ja)) 3 (w 3 + nI ja)) (ntP n p w) ((o + ntD n) % 5) (ntM n + 1) L f)) := by
  have m0 := s_0
  have m4 := mj_S4.1
  have m5 := mj_B5.1
  have m52 := s_52
  have hR : RB I 5 w := hc.1.1
  have hI : IV w := hc.1.2.1
  have hZ : ZB w := hc.1.2.2.1
  have hle : tn (w 0) ≤ 200 := hI.1.2
  have et : I 5 5 = w 2 := hR.2.1 1 (by decide)
  have e2 := hI.2.2.1
  have hlow : ¬ nI ja < 1 := nI_nlt (b := 1) hja1 (by omega)
  have hup : nI ja ≤ 999 := nI_le (b := 999) hja (by decide)
  have hf : w 2 + nI ja ≤ 9999 := by
    rw [e2.1, nI_add]
    exact nI_le (b := 9999) hs (by decide)
  have hw : IV (upd (upd w 2 (w 2 + nI ja)) 3 (w 3 + nI ja)) := IV_acc (IV_tre hI (by
    rw [e2.1, nI_add]
    exact rg_nI hs (by decide))) (by decide)
  refine mj_enter (by decide +kernel) (Nat.le_of_ble_eq_true rfl) ?_
  have hrec := Z_rec hc
  refine J_ild S_X9_grant rfl rfl ?_
  refine J_C S_X9_grant rfl ?_
  refine J_cmp S_X9_grant rfl (fun c2 => False.elim (hlow c2)) (fun c2 => ?_)
  refine J_ild S_X9_grant rfl rfl ?_
  refine J_C S_X9_grant rfl ?_
  refine J_cmp S_X9_grant rfl (fun c9 => ?_) (fun c9 => False.elim (c9 hup))
  refine J_ald S_X9_grant rfl rfl ?_
  refine J_getR S_X9_grant rfl (o' := 4) (by assumption) (by omega) rfl ?_
  refine J_getR S_X9_grant rfl (o' := 5) (by assumption) (by omega) rfl ?_
  refine J_ast S_X9_grant rfl rfl ?_
  refine J_ald S_X9_grant rfl rfl ?_
  refine J_getI S_X9_grant rfl (by assumption) (by omega) ?_
  refine J_ild S_X9_grant rfl rfl ?_
  rw [et]
  refine J_bin S_X9_grant rfl ?_
  refine J_C S_X9_grant rfl ?_
  refine J_cmp S_X9_grant rfl (fun c32 => ?_) (fun c32 => False.elim (c32 hf))
  refine J_ald S_X9_grant rfl rfl ?_
  refine J_getR S_X9_grant rfl (o' := 52) (by assumption) (by omega) rfl ?_
  refine J_ald S_X9_grant rfl rfl ?_
  refine J_getR S_X9_grant rfl (o' := 4) (by assumption) (by omega) rfl ?_
  refine J_CV S_X9_grant rfl rfl (by assumption) (by omega) (by simp) (hrec) ?_
  rintro _ _ ⟨I1, rfl, rfl, hr⟩
  refine J_ald S_X9_grant rfl rfl ?_
  refine J_ild S_X9_grant rfl rfl ?_
  refine J_CVx S_X9_grant rfl rfl (by assumption) (by omega) (by simp) (C_X0_receive mj_B5) rfl ?_
  refine J_ald S_X9_grant rfl rfl ?_
  refine J_getI S_X9_grant rfl (by assumption) (by omega) ?_
  refine J_retI S_X9_grant rfl ?_
  have e5 : I1 5 5 = w 2 := by rw [hr.1 5 (by decide)]; exact et
  have e6 : I1 5 6 = w 3 := by rw [hr.1 5 (by decide)]; exact hR.2.1 2 (by decide)
  rw [e5, e6]
  have g := RC_B hc hr (RB_ac (i := 2) (x := w 3 + nI ja) (by rw [up_n (by decide)]; exact hle) (RB_ac (i := 1) (x := w 2 + nI ja) hle (RC_R hc hr).1 (by decide)) (by decide)) (fr_up (fr_up fr_rf (by omega) (by omega)) (by omega) (by omega)) hw (ZB_up (ZB_up hZ (by decide)) (by decide)) (fun i hi => by rw [up_n (by omega), up_n (by omega)])
  exact ⟨_, rfl, rfl, g.1⟩
theorem X9_set_ok {w p : mv} {o n L : Nat} {f : Nat → Int32} (hc : CR I w p o n L f) {j k : Nat} (hj : j < 6) (h1 : loS j ≤ k) (h2 : k ≤ hiS j) : mj_R D_X9_set [.inr (some 0), .inl (nI j), .inl (nI k)] (mj_w I) (mj_px (fun r I1 => r = some (.inl (w (9 + j))) ∧ CR I1 (upd w (9 + j) (nI k)) (ntP n p w) ((o + ntD n) % 5) (ntM n + 1) L f)) := by
  have m0 := s_0
  have m4 := mj_S4.1
  have m5 := mj_B5.1
  have m52 := s_52
  have hR : RB I 5 w := hc.1.1
  have hI : IV w := hc.1.2.1
  have hZ : ZB w := hc.1.2.2.1
  have hle : tn (w 0) ≤ 200 := hI.1.2
  have hhi : hiS j < 1000 := by
    have : ∀ j, j < 6 → hiS j < 1000 := by decide
    exact this j hj
  have g9 := fun J => C_X9_isSet (I := J) hj (x := nI k)
  rw [show sOK j (nI k) = true by unfold sOK; rw [decide_eq_true (nI_le h1 (by omega)), decide_eq_true (nI_le h2 (by omega))]; rfl] at g9
  have e5 : I (5 + 5) j = w (9 + j) := hR.2.2.1 j hj
  refine mj_enter (by decide +kernel) (Nat.le_of_ble_eq_true rfl) ?_
  have hrec := Z_rec hc
  refine J_ild S_X9_set rfl rfl ?_
  refine J_ild S_X9_set rfl rfl ?_
  refine J_CSx S_X9_set rfl rfl (by simp) (g9 I) rfl ?_
  refine J_if S_X9_set rfl (fun c5 => ?_) (fun c5 => False.elim (absurd c5 (by decide)))
  refine J_ald S_X9_set rfl rfl ?_
  refine J_getR S_X9_set rfl (o' := 52) (by assumption) (by omega) rfl ?_
  refine J_ald S_X9_set rfl rfl ?_
  refine J_getR S_X9_set rfl (o' := 4) (by assumption) (by omega) rfl ?_
  refine J_CV S_X9_set rfl rfl (by assumption) (by omega) (by simp) (hrec) ?_
  rintro _ _ ⟨I1, rfl, rfl, hr⟩
  refine J_ald S_X9_set rfl rfl ?_
  refine J_getR S_X9_set rfl (o' := 4) (by assumption) (by omega) rfl ?_
  refine J_getR S_X9_set rfl (o' := 5) (by assumption) (by omega) rfl ?_
  refine J_ild S_X9_set rfl rfl ?_
  refine J_CVx S_X9_set rfl rfl (by assumption) (by omega) (by simp) (C_X0_setting mj_B5 hj) rfl ?_
  refine J_ist S_X9_set rfl rfl ?_
  refine J_ald S_X9_set rfl rfl ?_
  refine J_getR S_X9_set rfl (o' := 4) (by assumption) (by omega) rfl ?_
  refine J_getR S_X9_set rfl (o' := 5) (by assumption) (by omega) rfl ?_
  refine J_ild S_X9_set rfl rfl ?_
  refine J_ild S_X9_set rfl rfl ?_
  refine J_CVx S_X9_set rfl rfl (by assumption) (by omega) (by simp) (C_X0_changeSetting mj_B5 hj) rfl ?_
  refine J_ild S_X9_set rfl rfl ?_
  refine J_retI S_X9_set rfl ?_
  rw [hr.1 (5 + 5) (by omega), e5]
  have g := RC_B hc hr (RB_st (i := j) (x := nI k) hle (RC_R hc hr).1 hj) (fr_up fr_rf (by omega) (by omega)) (IV_set hI hj (rg_nI h2 (by omega)) (by rw [tn_nI (by omega)]; exact h1)) (ZB_up hZ (by omega)) (fun i hi => by rw [up_n (by omega)])
  exact ⟨_, rfl, rfl, g.1⟩
end Ac
