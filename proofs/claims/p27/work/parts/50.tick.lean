/-- a view's debt with the interest of one tick -/
def tkD (v : mv) (k : Nat) : Int32 := vk v k 7 + v 9 * nI (arr v k)
def tkB (v : mv) (k : Nat) : Bool := ex v k && (decide (vk v k 5 = 0) && decide (v 11 < tkD v k))
def tkS (v : mv) (k : Nat) : mv :=
  if vk v k 4 = 1 ∧ vk v k 5 = 0 then
    (if v 11 < tkD v k then upd (upd (upd (upd v (615 + 9 * k + 7) (tkD v k)) 7 (v 7 + tkD v k)) (615 + 9 * k + 7) 0) (615 + 9 * k + 5) 1 else upd v (615 + 9 * k + 7) (tkD v k))
  else v
def tkV (v : mv) : Nat → mv
  | 0 => v
  | i + 1 => tkS (tkV v i) i
def tkE (v : mv) : mv := upd (upd (upd v 2 (v 2 + v 12)) 3 (v 3 + v 12)) 8 (v 8 + 1)
section Tk
variable {I : mj_I} {b : Nat} {v : mv}
theorem tkS_o {k i : Nat} (h7 : i ≠ 7) (g5 : i ≠ 615 + 9 * k + 5) (g7 : i ≠ 615 + 9 * k + 7) : tkS v k i = v i := by
  unfold tkS
  split
  · split
    · rw [up_n g5, up_n g7, up_n h7, up_n g7]
    · rw [up_n g7]
  · rfl
theorem tkV_o {i : Nat} (h7 : i ≠ 7) (hg : ∀ k, i ≠ 615 + 9 * k + 5 ∧ i ≠ 615 + 9 * k + 7) : ∀ n, tkV v n i = v i
  | 0 => rfl
  | n + 1 => by
    show tkS _ _ _ = _
    rw [tkS_o h7 (hg n).1 (hg n).2]
    exact tkV_o h7 hg n
theorem tkV_k {k f : Nat} (hf : f < 9) : ∀ n, n ≤ k → vk (tkV v n) k f = vk v k f
  | 0, _ => rfl
  | n + 1, h => by
    show tkS _ _ _ = _
    rw [tkS_o (by omega) (by omega) (by omega)]
    exact tkV_k hf n (by omega)
theorem tkD_N (hI : IV v) {k : Nat} (hk : k < 8) (he : vk v k 4 = 1) : tkD v k = nI (tn (vk v k 7) + tn (v 9) * arr v k) ∧ tn (vk v k 7) + tn (v 9) * arr v k ≤ 4500 ∧ tn (v 11) ≤ 500 ∧ v 11 = nI (tn (v 11)) := by
  obtain ⟨-, -, -, -, -, -, -, -, -, -, -, w7, -⟩ := hI.wv hk he
  have h9 := (hI.2.2.2.1 0 (by decide)).1
  have h11 := (hI.2.2.2.1 2 (by decide)).1
  have l9 : tn (v 9) ≤ 20 := h9.2
  have e9 : v 9 = nI (tn (v 9)) := h9.1
  have ha := arr_le v k
  have hl := hI.1.2
  have hm : tn (v 9) * arr v k ≤ 20 * 200 := Nat.mul_le_mul l9 (by omega)
  have l7 := w7.2
  refine ⟨?_, by omega, h11.2, h11.1⟩
  have e7 : vk v k 7 = nI (tn (vk v k 7)) := w7.1
  unfold tkD
  rw [← nI_add, ← pk_mul, ← e7, ← e9]
theorem sq_tk {k : Nat} : SQ v (tkS v k) := ⟨fun i h1 h2 => tkS_o (by omega) (by omega) (by omega), fun q f hf => tkS_o (by omega) (by omega) (by omega)⟩
theorem tkS_I (hI : IV v) {k : Nat} (hk : k < 8) : IV (tkS v k) := by
  refine IV_to hI sq_tk (tkS_o (by omega) (by omega) (by omega)) (tkS_o (by omega) (by omega) (by omega)) (by rw [tkS_o (by omega) (by omega) (by omega)]; exact hI.2.2.1) (fun i hi => tkS_o (by omega) (by omega) (by omega)) (fun q => tkS_o (by omega) (by omega) (by omega)) (fun q hq => ?_)
  obtain ⟨-, -, -, -, -, -, -, -, -, x5, x6, x7, x8⟩ := hI.2.2.2.2.2.1 q hq
  have e6 : vk (tkS v k) q 6 = vk v q 6 := tkS_o (by omega) (by omega) (by omega)
  rw [e6]
  by_cases e : q = k
  · subst e
    unfold tkS
    by_cases g : vk v q 4 = 1 ∧ vk v q 5 = 0
    · obtain ⟨d1, d2, d3, d4⟩ := tkD_N hI hk g.1
      rw [if_pos g]
      by_cases g2 : v 11 < tkD v q
      · rw [if_pos g2]
        rw [show vk (upd (upd (upd (upd v (615 + 9 * q + 7) (tkD v q)) 7 (v 7 + tkD v q)) (615 + 9 * q + 7) 0) (615 + 9 * q + 5) 1) q 5 = 1 from vk_us, vk_up (by omega), vk_us]
        exact ⟨rg_nI (n := 1) (by decide) (by decide), x6, rg_nI (n := 0) (by decide) (by decide), fun _ => rfl⟩
      · rw [if_neg g2, vk_up (by omega), vk_us]
        refine ⟨x5, x6, ?_, fun h => by rw [h] at g; exact absurd g.1 (by decide)⟩
        rw [d1] at g2 ⊢
        rw [d4] at g2
        have : ¬ tn (v 11) < tn (vk v q 7) + tn (v 9) * arr v q := fun c => g2 (nI_lt c (by omega))
        exact rg_nI (by omega) (by decide)
    · rw [if_neg g]
      exact ⟨x5, x6, x7, x8⟩
  · rw [show vk (tkS v k) q 5 = vk v q 5 from tkS_o (by omega) (by omega) (by omega), show vk (tkS v k) q 7 = vk v q 7 from tkS_o (by omega) (by omega) (by omega)]
    exact ⟨x5, x6, x7, x8⟩
theorem tkS_Z (h : ZB v) {k : Nat} : ZB (tkS v k) := fun q hq g4 g5 => by
  have e4 : vk (tkS v k) q 4 = vk v q 4 := tkS_o (by omega) (by omega) (by omega)
  rw [e4] at g4
  by_cases e : q = k
  · subst e
    unfold tkS at g5 ⊢
    by_cases g : vk v q 4 = 1 ∧ vk v q 5 = 0
    · rw [if_pos g] at g5 ⊢
      by_cases g2 : v 11 < tkD v q
      · rw [if_pos g2, vk_up (by omega), vk_us]
      · rw [if_neg g2, vk_up (by omega), g.2] at g5
        exact absurd g5 (by decide)
    · rw [if_neg g] at g5 ⊢
      exact h q hq g4 g5
  · rw [show vk (tkS v k) q 5 = vk v q 5 from tkS_o (by omega) (by omega) (by omega)] at g5
    rw [show vk (tkS v k) q 7 = vk v q 7 from tkS_o (by omega) (by omega) (by omega)]
    exact h q hq g4 g5
theorem tkV_I (hI : IV v) : ∀ n, n ≤ 8 → IV (tkV v n)
  | 0, _ => hI
  | n + 1, h => tkS_I (tkV_I hI n (by omega)) (by omega)
theorem tkV_Z (h : ZB v) : ∀ n, ZB (tkV v n)
  | 0 => h
  | n + 1 => tkS_Z (tkV_Z h n)
theorem tkV_h {i : Nat} (hi : 687 ≤ i) : ∀ n, n ≤ 8 → tkV v n i = v i
  | 0, _ => rfl
  | n + 1, h => by
    show tkS _ _ _ = _
    rw [tkS_o (by omega) (by omega) (by omega)]
    exact tkV_h hi n (by omega)
/-- behind the last defined view nothing happens -/
theorem tkV_end (hI : IV v) : ∀ m, tn (v 1) + m ≤ 8 → tkV v (tn (v 1) + m) = tkV v (tn (v 1))
  | 0, _ => rfl
  | m + 1, h => by
    rw [← Nat.add_assoc]
    show tkS (tkV v (tn (v 1) + m)) (tn (v 1) + m) = _
    unfold tkS
    rw [if_neg (fun g => ?_)]
    · exact tkV_end hI m (by omega)
    · have g1 := g.1
      rw [tkV_k (by decide) _ (Nat.le_refl _), hI.2.2.2.2.2.2 _ (by omega) (by omega)] at g1
      exact absurd g1 (by decide)
theorem up_cm {f : Nat → Int32} {i j : Nat} {x y : Int32} (h : i ≠ j) : upd (upd f i x) j y = upd (upd f j y) i x := by
  funext q
  simp only [upd]
  by_cases a : q = i
  · rw [if_neg (by omega), if_pos a, if_pos a]
  · by_cases c : q = j
    · rw [if_pos c, if_neg a, if_pos c]
    · rw [if_neg c, if_neg a, if_neg a, if_neg c]
theorem tk_msk (p : Nat → Bool) {k : Nat} (hk : k < 31) : nI (msk p k) ||| (if p k = true then 1 <<< (nI k &&& 31) else 0) = nI (msk p (k + 1)) := by
  rw [msk]
  by_cases h : p k = true
  · rw [if_pos h, if_pos h]; exact msk_or1 p k hk
  · rw [if_neg h, if_neg h, Int32.or_zero, Nat.add_zero]
theorem C_X0_passTick (hB : mj_isB b) (hR : RB I b v) (hI : IV v) : mj_R D_X0_passTick [.inr (some b)] (mj_w I) (mj_px (fun r I' => r = some (.inl (nI (msk (fun q => tkB (tkV v q) q) 8))) ∧ RB I' b (tkE (tkV v 8)) ∧ Fr b I I')) := by
  have hB' := hB
  obtain ⟨h0, h1, h2, h3, h4, h5, h6, hv, hb⟩ := hB
  refine mj_enter (by decide +kernel) (Nat.le_of_ble_eq_true rfl) ?_
  have key : ∀ (s k : Nat) (I' : mj_I) (q3 : Option mj_V), k + s = 8 → RB I' b (tkV v k) → Fr b I I' →
      mj_J D_X0_passTick (mj_px (fun r I' => r = some (.inl (nI (msk (fun q => tkB (tkV v q) q) 8))) ∧ RB I' b (tkE (tkV v 8)) ∧ Fr b I I')) 4 [some (.inr (some b)), some (.inl (nI (msk (fun q => tkB (tkV v q) q) k))), some (.inl (nI k)), q3] [] (mj_w I') (0, 0) := by
    intro s
    induction s with
    | zero =>
      intro k I' q3 hk hR' hF
      obtain rfl : k = 8 := by omega
      have hI8 := tkV_I hI 8 (by decide)
      have hs := C_X0_setting (I := I') hB' (i := 3) (by decide)
      rw [hR'.2.2.1 3 (by decide)] at hs
      have hrc := C_X0_receive (I := I') hB' (x := tkV v 8 12)
      rw [hR'.2.1 1 (by decide), hR'.2.1 2 (by decide)] at hrc
      have hl := hI8.1.2
      have R1 := RB_ac (i := 1) (x := tkV v 8 2 + tkV v 8 12) hl hR' (by decide)
      have R2 := RB_ac (i := 2) (x := tkV v 8 3 + tkV v 8 12) (by rw [up_n (by omega)]; exact hl) R1 (by decide)
      have R3 := RB_ac (i := 7) (x := tkV v 8 8 + 1) (by rw [up_n (by omega), up_n (by omega)]; exact hl) R2 (by decide)
      have e8 : I' b 11 = tkV v 8 8 := hR'.2.1 7 (by decide)
      have fin : RB (mj_up (mj_up (mj_up I' b 5 (tkV v 8 2 + tkV v 8 12)) b 6 (tkV v 8 3 + tkV v 8 12)) b 11 (tkV v 8 8 + 1)) b (tkE (tkV v 8)) := R3
      refine J_ild S_X0_passTick rfl rfl ?_
      refine J_C S_X0_passTick rfl ?_
      refine J_cmp S_X0_passTick rfl (fun c7 => ?_) (fun c7 => False.elim (c7 (by decide)))
      refine J_ald S_X0_passTick rfl rfl ?_
      refine J_ald S_X0_passTick rfl rfl ?_
      refine J_C S_X0_passTick rfl ?_
      refine J_CVx S_X0_passTick rfl rfl (by assumption) (by omega) (by simp) (hs) rfl ?_
      refine J_CVx S_X0_passTick rfl rfl (by assumption) (by omega) (by simp) (hrc) rfl ?_
      refine J_ald S_X0_passTick rfl rfl ?_
      refine J_dup S_X0_passTick rfl ?_
      refine J_getI S_X0_passTick rfl (by assumption) (by omega) ?_
      rw [mj_up_eq, up_n (by decide), mj_up_eq, up_n (by decide), e8]
      refine J_C S_X0_passTick rfl ?_
      refine J_bin S_X0_passTick rfl ?_
      refine J_putI S_X0_passTick rfl (by assumption) (by omega) ?_
      refine J_ild S_X0_passTick rfl rfl ?_
      refine J_retI S_X0_passTick rfl ?_
      exact ⟨_, rfl, rfl, fin, fr_up (fr_up (fr_up hF (by omega) (by omega)) (by omega) (by omega)) (by omega) (by omega)⟩
    | succ s ih =>
      intro k I' q3 hk hR' hF
      have hk8 : k < 8 := by omega
      have hIk := tkV_I hI k (by omega)
      have hm := tk_msk (fun q => tkB (tkV v q) q) (k := k) (by omega)
      have nx : ∀ (I2 : mj_I) (x : Int32) (q3 : Option mj_V), RB I2 b (tkS (tkV v k) k) → Fr b I' I2 → x = (if tkB (tkV v k) k = true then 1 <<< (nI k &&& 31) else 0) → mj_J D_X0_passTick (mj_px (fun r I' => r = some (.inl (nI (msk (fun q => tkB (tkV v q) q) 8))) ∧ RB I' b (tkE (tkV v 8)) ∧ Fr b I I')) 4 [some (.inr (some b)), some (.inl (nI (msk (fun q => tkB (tkV v q) q) k) ||| x)), some (.inl (nI k + 1)), q3] [] (mj_w I2) (0, 0) := by
        intro I2 x q3 hR2 hF2 hx
        rw [hx, hm, ← nI_succ]
        exact ih (k + 1) I2 q3 (by omega) hR2 (fr_tr hF hF2)
      generalize hu : tkV v k = u at *
      rcases hIk.b01 hk8 with he | he
      · have g := fun q3 => nx I' 0 q3 (by unfold tkS; rw [if_neg (fun g => by rw [he] at g; exact absurd g.1 (by decide))]; exact hR') fr_rf (by unfold tkB; rw [ex_f he]; rfl)
        simp only [Int32.or_zero] at g
        refine J_ild S_X0_passTick rfl rfl ?_
        refine J_C S_X0_passTick rfl ?_
        refine J_cmp S_X0_passTick rfl (fun c7 => False.elim (nI_ge (b := 8) hk8 (by decide) c7)) (fun c7 => ?_)
        refine J_ald S_X0_passTick rfl rfl ?_
        refine J_ild S_X0_passTick rfl rfl ?_
        refine J_CVx S_X0_passTick rfl rfl (by assumption) (by omega) (by simp) (C_X0_find_n hB' hR' hIk hk8 he) rfl ?_
        refine J_ast S_X0_passTick rfl rfl ?_
        refine J_ald S_X0_passTick rfl rfl ?_
        refine J_nuN S_X0_passTick rfl ?_
        refine J_inc S_X0_passTick rfl rfl rfl ?_
        refine J_goto S_X0_passTick rfl ?_
        exact g _
      · have hvk := hv k hk8
        obtain ⟨-, -, -, -, -, -, -, -, -, w5, -⟩ := hIk.wv hk8 he
        obtain ⟨r1, r2, r3, r4, r5, r6, r7, r8, r9, r10⟩ := (hR'.2.2.2.2 k hk8).2.2 he
        rcases rg_01 w5 with hz | hz
        · have hin := C_X0_interest hB' hR' hIk hk8 he
          have hl := hIk.1.2
          have hkd := hIk.ex hk8 he
          have R1 := RB_vw (f := 7) (x := tkD u k) hl hR' hk8 (by decide) (fun h => absurd h (by decide))
          have hs := C_X0_setting (I := mj_up I' (b + 7 + k) 9 (tkD u k)) hB' (i := 2) (by decide)
          rw [R1.2.2.1 2 (by decide), up_n (by omega)] at hs
          have e9 : I' (b + 7 + k) 9 + u 9 * nI (arr u k) = tkD u k := by rw [r9]; rfl
          have e10 : I' b 10 = u 7 := hR'.2.1 6 (by decide)
          have hfl := fun J => C_X8_fail (I := J) hvk (by omega)
          by_cases hd : u 11 < tkD u k
          · have R2 := RB_ac (i := 6) (x := u 7 + tkD u k) (by rw [up_n (by omega)]; exact hl) R1 (by decide)
            have R3 := RB_vw (f := 5) (x := 1) (by rw [up_n (by omega), up_n (by omega)]; exact hl) R2 hk8 (by decide) (fun _ => Or.inr rfl)
            have R4 := RB_vw (f := 7) (x := 0) (by rw [up_n (by omega), up_n (by omega), up_n (by omega)]; exact hl) R3 hk8 (by decide) (fun h => absurd h (by decide))
            have ev : upd (upd (upd (upd u (615 + 9 * k + 7) (tkD u k)) (1 + 6) (u 7 + tkD u k)) (615 + 9 * k + 5) 1) (615 + 9 * k + 7) 0 = tkS u k := by
              rw [up_cm (by omega)]
              unfold tkS
              rw [if_pos ⟨he, hz⟩, if_pos hd]
            rw [ev] at R4
            have g := fun q3 => nx _ (1 <<< (nI k &&& 31)) q3 R4 (fr_up (fr_up (fr_up (fr_up fr_rf (by omega) (by omega)) (by omega) (by omega)) (by omega) (by omega)) (by omega) (by omega)) (by unfold tkB; rw [ex_t he, hz, decide_eq_true hd]; rfl)
            refine J_ild S_X0_passTick rfl rfl ?_
            refine J_C S_X0_passTick rfl ?_
            refine J_cmp S_X0_passTick rfl (fun c7 => False.elim (nI_ge (b := 8) hk8 (by decide) c7)) (fun c7 => ?_)
            refine J_ald S_X0_passTick rfl rfl ?_
            refine J_ild S_X0_passTick rfl rfl ?_
            refine J_CVx S_X0_passTick rfl rfl (by assumption) (by omega) (by simp) (C_X0_find_y hB' hR' hIk hk8 he) rfl ?_
            refine J_ast S_X0_passTick rfl rfl ?_
            refine J_ald S_X0_passTick rfl rfl ?_
            refine J_nuS S_X0_passTick rfl ?_
            refine J_ald S_X0_passTick rfl rfl ?_
            refine J_getI S_X0_passTick rfl (by assumption) (by omega) ?_
            rw [r7, hz]
            refine J_if S_X0_passTick rfl (fun c24 => ?_) (fun c24 => False.elim (c24 rfl))
            refine J_ald S_X0_passTick rfl rfl ?_
            refine J_dup S_X0_passTick rfl ?_
            refine J_getI S_X0_passTick rfl (by assumption) (by omega) ?_
            refine J_ald S_X0_passTick rfl rfl ?_
            refine J_ald S_X0_passTick rfl rfl ?_
            refine J_CVx S_X0_passTick rfl rfl (by assumption) (by omega) (by simp) (hin) rfl ?_
            refine J_bin S_X0_passTick rfl ?_
            rw [e9]
            refine J_putI S_X0_passTick rfl (by assumption) (by omega) ?_
            refine J_ald S_X0_passTick rfl rfl ?_
            refine J_getI S_X0_passTick rfl (by assumption) (by omega) ?_
            rw [mj_up_eq, up_s]
            refine J_ald S_X0_passTick rfl rfl ?_
            refine J_C S_X0_passTick rfl ?_
            refine J_CVx S_X0_passTick rfl rfl (by assumption) (by omega) (by simp) (hs) rfl ?_
            refine J_cmp S_X0_passTick rfl (fun c53 => False.elim (Int32.not_le.mpr hd c53)) (fun c53 => ?_)
            refine J_ald S_X0_passTick rfl rfl ?_
            refine J_dup S_X0_passTick rfl ?_
            refine J_getI S_X0_passTick rfl (by assumption) (by omega) ?_
            rw [mj_up_ne (show b ≠ b + 7 + k by omega), e10]
            refine J_ald S_X0_passTick rfl rfl ?_
            refine J_getI S_X0_passTick rfl (by assumption) (by omega) ?_
            rw [mj_up_eq, up_s]
            refine J_bin S_X0_passTick rfl ?_
            refine J_putI S_X0_passTick rfl (by assumption) (by omega) ?_
            refine J_ald S_X0_passTick rfl rfl ?_
            refine J_CVx S_X0_passTick rfl rfl (by assumption) (by omega) (by simp) (hfl _) rfl ?_
            refine J_ild S_X0_passTick rfl rfl ?_
            refine J_C S_X0_passTick rfl ?_
            refine J_ild S_X0_passTick rfl rfl ?_
            refine J_bin S_X0_passTick rfl ?_
            refine J_bin S_X0_passTick rfl ?_
            refine J_ist S_X0_passTick rfl rfl ?_
            refine J_inc S_X0_passTick rfl rfl rfl ?_
            refine J_goto S_X0_passTick rfl ?_
            exact g _
          · have ev : upd u (615 + 9 * k + 7) (tkD u k) = tkS u k := by
              unfold tkS
              rw [if_pos ⟨he, hz⟩, if_neg hd]
            rw [ev] at R1
            have g := fun q3 => nx _ 0 q3 R1 (fr_up fr_rf (by omega) (by omega)) (by unfold tkB; rw [ex_t he, hz, decide_eq_false hd]; rfl)
            simp only [Int32.or_zero] at g
            refine J_ild S_X0_passTick rfl rfl ?_
            refine J_C S_X0_passTick rfl ?_
            refine J_cmp S_X0_passTick rfl (fun c7 => False.elim (nI_ge (b := 8) hk8 (by decide) c7)) (fun c7 => ?_)
            refine J_ald S_X0_passTick rfl rfl ?_
            refine J_ild S_X0_passTick rfl rfl ?_
            refine J_CVx S_X0_passTick rfl rfl (by assumption) (by omega) (by simp) (C_X0_find_y hB' hR' hIk hk8 he) rfl ?_
            refine J_ast S_X0_passTick rfl rfl ?_
            refine J_ald S_X0_passTick rfl rfl ?_
            refine J_nuS S_X0_passTick rfl ?_
            refine J_ald S_X0_passTick rfl rfl ?_
            refine J_getI S_X0_passTick rfl (by assumption) (by omega) ?_
            rw [r7, hz]
            refine J_if S_X0_passTick rfl (fun c24 => ?_) (fun c24 => False.elim (c24 rfl))
            refine J_ald S_X0_passTick rfl rfl ?_
            refine J_dup S_X0_passTick rfl ?_
            refine J_getI S_X0_passTick rfl (by assumption) (by omega) ?_
            refine J_ald S_X0_passTick rfl rfl ?_
            refine J_ald S_X0_passTick rfl rfl ?_
            refine J_CVx S_X0_passTick rfl rfl (by assumption) (by omega) (by simp) (hin) rfl ?_
            refine J_bin S_X0_passTick rfl ?_
            rw [e9]
            refine J_putI S_X0_passTick rfl (by assumption) (by omega) ?_
            refine J_ald S_X0_passTick rfl rfl ?_
            refine J_getI S_X0_passTick rfl (by assumption) (by omega) ?_
            rw [mj_up_eq, up_s]
            refine J_ald S_X0_passTick rfl rfl ?_
            refine J_C S_X0_passTick rfl ?_
            refine J_CVx S_X0_passTick rfl rfl (by assumption) (by omega) (by simp) (hs) rfl ?_
            refine J_cmp S_X0_passTick rfl (fun c53 => ?_) (fun c53 => False.elim (c53 (Int32.not_lt.mp hd)))
            refine J_inc S_X0_passTick rfl rfl rfl ?_
            refine J_goto S_X0_passTick rfl ?_
            exact g _
        · have g := fun q3 => nx I' 0 q3 (by unfold tkS; rw [if_neg (fun g => by rw [hz] at g; exact absurd g.2 (by decide))]; exact hR') fr_rf (by unfold tkB; rw [ex_t he, hz]; rfl)
          simp only [Int32.or_zero] at g
          refine J_ild S_X0_passTick rfl rfl ?_
          refine J_C S_X0_passTick rfl ?_
          refine J_cmp S_X0_passTick rfl (fun c7 => False.elim (nI_ge (b := 8) hk8 (by decide) c7)) (fun c7 => ?_)
          refine J_ald S_X0_passTick rfl rfl ?_
          refine J_ild S_X0_passTick rfl rfl ?_
          refine J_CVx S_X0_passTick rfl rfl (by assumption) (by omega) (by simp) (C_X0_find_y hB' hR' hIk hk8 he) rfl ?_
          refine J_ast S_X0_passTick rfl rfl ?_
          refine J_ald S_X0_passTick rfl rfl ?_
          refine J_nuS S_X0_passTick rfl ?_
          refine J_ald S_X0_passTick rfl rfl ?_
          refine J_getI S_X0_passTick rfl (by assumption) (by omega) ?_
          rw [r7, hz]
          refine J_if S_X0_passTick rfl (fun c24 => False.elim (absurd c24 (by decide))) (fun c24 => ?_)
          refine J_goto S_X0_passTick rfl ?_
          refine J_inc S_X0_passTick rfl rfl rfl ?_
          refine J_goto S_X0_passTick rfl ?_
          exact g _
  refine J_C S_X0_passTick rfl ?_
  refine J_ist S_X0_passTick rfl rfl ?_
  refine J_C S_X0_passTick rfl ?_
  refine J_ist S_X0_passTick rfl rfl ?_
  exact key 8 0 I none rfl hR fr_rf
end Tk
