/-! the law -/
theorem CR_start {I : mj_I} (h : ∀ q, q < 313 → I q = mj_I0 q) : CR I wI (fun _ => 0) 0 0 0 (fun _ => 0) := by
  obtain ⟨b0, b1, b2, b3, b4, b5, b6, bv, -⟩ := mj_B5
  have e3 : I 3 = fun _ => 0 := funext fun k => i0_z0 (h 3 (by decide)) s_3 (by decide) (by decide) k
  have hRB : RB I 5 wI := by
    refine ⟨?_, fun i hi => ?_, fun i hi => ?_, fun j hj => ?_, fun k hk => ?_⟩
    · rw [wI_0 (by decide)]; exact i0_z0 (h _ (by decide)) b1 (by decide) (by decide) 2
    · rw [wI_0 (by omega)]; exact i0_z0 (h _ (by decide)) b0 (by decide) (by decide) _
    · rw [i0_of (h _ (by decide)) b5 i]
      rcases (show i = 0 ∨ i = 1 ∨ i = 2 ∨ i = 3 ∨ i = 4 ∨ i = 5 by omega) with rfl | rfl | rfl | rfl | rfl | rfl <;> rfl
    · rw [wI_0 (by decide), tn_0] at hj
      exact absurd hj (Nat.not_lt_zero j)
    · have hz := i0_z0 (h (5 + 7 + k) (by omega)) (bv k hk) (by decide) (by decide)
      have hv4 : vk wI k 4 = 0 := wI_0 (by omega)
      rw [hv4]
      exact ⟨hz 0, ⟨Or.inl (hz 7), fun _ => hz 10⟩, fun c => absurd c (by decide)⟩
  have s52 := i0_z0 (h 52 (by decide)) s_52 (by decide) (by decide)
  refine ⟨?_, ?_, by decide, ?_, e3⟩
  · refine ⟨hRB, wI_I, wI_Z, fun q hq => ?_⟩
    have hf : wI (687 + 688 * q) = 0 := wI_0 (by omega)
    rw [hf]
    exact ⟨i0_z0 (h (4 + 17) (by decide)) mj_S4.2.2.2.1 (by decide) (by decide) q, Or.inl rfl, fun c => absurd c (by decide)⟩
  · exact ⟨by rw [s52 1]; exact nI_0.symm, by rw [s52 2]; exact nI_0.symm, by decide, by decide, fun a ha => absurd ha (Nat.not_lt_zero a)⟩
  · rw [i0_z0 (h 2 (by decide)) s_2 (by decide) (by decide) 1]; exact nI_0.symm
theorem wI_A : AK wI := by
  unfold AK
  rw [wI_0 (by decide), wI_0 (by decide), wI_0 (by decide), wI_0 (by decide), wI_0 (by decide)]
  decide
/-- the text stands for the object's own -/
theorem CR_txt {I J : mj_I} {w p : mv} {o n L : Nat} {f : Nat → Int32} {l : List Int32} (hc : CR I w p o n L f) (h : TXT I J l) (hl : l.length ≤ 40) : CR J w p o n l.length (J 3) := by
  obtain ⟨a, b, -, -, -⟩ := hc
  exact ⟨RS_fr a (fun q g1 g2 => h.1 q (by omega) (by omega)), RH_fr b (fun q g1 g2 => h.1 q (by omega) (by omega)), hl, h.2.1, rfl⟩
theorem G_tells {I : mj_I} {w : mv} (h : LKS I w) {kd tb a b : Nat} (hk : kd < 5) (ht : tb < 2) (ha : a < 12) (hb : b < 12) : mj_R D_L_tells [.inr (some 0), .inl (nI kd), .inl (nI tb), .inl (nI a), .inl (nI b)] (mj_w I) (mj_px (fun r J => r = none ∧ TXT I J (txL kd tb a b))) := by
  obtain ⟨p, o, n, L, f, hc⟩ := h
  exact T_tells hc hk ht ha hb
theorem G_define {I J : mj_I} {w : mv} (h : GS I w) (hA : AK w) {kd tb a b : Nat} (hk : kd < 5) (ht : tb < 2) (ha : a < 12) (hb : b < 12) (hx : TXT I J (txL kd tb a b)) (hm : mayD w (nI kd) (nI a) (nI b) = true) (hd : tn (w 1) < 8) : mj_R D_X9_define [.inr (some 0)] (mj_w J) (mj_px (fun r I4 => r = some (.inl (nI (tn (w 1)))) ∧ GS I4 (defV w (nI kd) (nI (txT kd tb)) (nI a) (nI b)))) := by
  obtain ⟨p, o, n, L, f, hc, hn, hp⟩ := h
  refine R_imp (X9_define_ok (CR_txt hc hx (tx_le hk)) (rds_ext hx.2.2 (tx_ok hk ht ha hb)) hm hd) ?_
  rintro r I4 ⟨g0, g1, -⟩
  exact ⟨g0, GS_rec hA g1⟩
theorem AK_def {w : mv} {kd tb a b : Int32} (h : AK w) : AK (defV w kd tb a b) := AK_same h (fun i h1 h2 => def_o (by omega) (by omega))
theorem G_grant {I : mj_I} {w : mv} (h : GS I w) (ha : AK w) {ja : Nat} (hja1 : 1 ≤ ja) (hja : ja ≤ 999) (hs : tn (w 2) + ja ≤ 9999) : mj_R D_X9_grant [.inr (some 0), .inl (nI ja)] (mj_w I) (mj_px (fun r I1 => r = some (.inl (w 2 + nI ja)) ∧ GS I1 (upd (upd w 2 (w 2 + nI ja)) 3 (w 3 + nI ja)))) := by
  obtain ⟨p, o, n, L, f, hc, -⟩ := h
  refine R_imp (X9_grant_ok hc hja1 hja hs) ?_
  rintro r I2 ⟨g0, g⟩
  exact ⟨g0, GS_rec ha g⟩
abbrev law_p : Option mj_V → mj_M → Prop := fun r _ => r = some (.inl 1)
abbrev lwz : Nat × Nat := (313, 10115)
/-- views that are defined are there, the log is empty -/
def D4 (w : mv) (k : Nat) : Prop := tn (w 1) = k ∧ w 0 = 0 ∧ ∀ j, j < k → vk w j 4 = 1
/-- five views, the last made of two; the log has at most k changes -/
def D5 (w : mv) (c k : Nat) : Prop := tn (w 1) = 5 ∧ tn (w 0) ≤ k ∧ (∀ j, j < 5 → vk w j 4 = 1) ∧ vk w 4 0 = 4 ∧ vk w 4 2 = nI c
theorem D4_def {w : mv} {k : Nat} {kd tb a b : Int32} (hI : IV w) (h : D4 w k) (hk : k < 8) : D4 (defV w kd tb a b) (k + 1) := by
  obtain ⟨h1, h2, h3⟩ := h
  refine ⟨by rw [(def_1 hI).2, h1], by rw [def_o (by decide) (by omega)]; exact h2, fun j hj => ?_⟩
  by_cases e : j = tn (w 1)
  · rw [e]; exact def_e.2.2.2.2.1
  · rw [def_k e 4 (by decide)]; exact h3 j (by omega)
theorem D5_KV {w w' : mv} {c k : Nat} (h : D5 w c k) (hv : KV w w') : D5 w' c (k + 1) := by
  obtain ⟨h1, h2, h3, h4, h5⟩ := h
  obtain ⟨v0, v1, vq⟩ := hv
  exact ⟨by rw [v1]; exact h1, by rw [v0]; omega, fun j hj => by rw [vq j (by omega) 4 (by decide)]; exact h3 j hj, by rw [vq 4 (by decide) 0 (by decide)]; exact h4, by rw [vq 4 (by decide) 2 (by decide)]; exact h5⟩
section LW
variable {b N : Nat} {xs : Nat → Int32} {I : mj_I} {w : mv}
abbrev rfo : Option mj_V := some (.inr (some 0))
abbrev rfs : Option mj_V := some (.inr (some 1050))
/-- the end: refused calls, undo -/
theorem law_end {x4 x5 x6 x7 : Option mj_V} (hN : N ≤ 260) (h : GS I w) (ha : AK w) (hd : D5 w (cvN N xs 7 % 2) 26) : SJ D_L_law b N xs law_p 516 [rfs, rfo, some (.inl 1), some (.inl (nI 26)), x4, x5, x6, x7] [] (mj_w I) lwz := by
  have m0 := s_0
  have hl := h.ls
  obtain ⟨hR, hI, hZ⟩ := LKS_IV hl
  obtain ⟨p, o, n, L, f, hc, hn, hA⟩ := h
  obtain ⟨n, rfl⟩ : ∃ m, n = m + 1 := ⟨n - 1, by omega⟩
  have c15 := X9_count_15 hc
  have p1 := X9_put_no (I := I) (a := 2) (b := 0) (c := 0) (fun q => absurd q.1.2 (by decide))
  have p2 := X9_put_no (I := I) (a := 0) (b := 0) (c := 100) (fun q => absurd q.2.2.2 (by decide))
  have p3 := X9_set_no (I := I) (a := 6) (x := 0) (C_X9_isSet_o (Or.inr (by decide)))
  have p4 := X9_grant_no (I := I) (a := 0) (fun q => absurd q.1 (by decide))
  have p5 := X9_pay_no (I := I) hR hI (a := 8) (c := 1) (fun q => absurd q.1 (by
    have : isV w 8 = false := by
      unfold isV
      rw [show decide ((8 : Int32) < 8) = false from by decide, Bool.false_and, Bool.and_false]
    rw [this]; decide))
  have p6 := X9_pay_no (I := I) hR hI (a := 0) (c := 1000) (fun q => absurd q.2.2 (by decide))
  have c2 : cvN N xs 7 % 2 < 2 := Nat.mod_lt _ (by decide)
  have mt : made w (nI (cvN N xs 7 % 2)) 4 = true := by
    unfold made
    rw [ex_t (hd.2.2.1 4 (by decide)), decide_eq_true hd.2.2.2.1, decide_eq_true hd.2.2.2.2]
    rfl
  have an : anyB (made w (nI (cvN N xs 7 % 2))) 8 = true := by
    cases c : anyB (made w (nI (cvN N xs 7 % 2))) 8
    · exact absurd (anyB_f 8 c 4 (by decide)) (by rw [mt]; decide)
    · rfl
  have p7 := X9_drop_ill (I := I) hR hI (show cvN N xs 7 % 2 < 8 by omega) (hd.2.2.1 _ (by omega)) an
  have e7 : nI (cvN N xs 7) - nI (cvN N xs 7) / 2 * 2 = nI (cvN N xs 7 % 2) := pk_rem (d := 2) (cv_e N xs 7).2 (by decide) (by decide)
  have ud := X9_undo_ok hc.2.1
  have eU : nI (n + 1) - 1 = nI n := pk_sub (a := n + 1) (b := 1) (by omega)
  refine K_ald S_L_law rfl rfl ?_
  refine K_C S_L_law rfl ?_
  refine K_CVx S_L_law rfl rfl (by assumption) (by omega) (by simp) (c15) rfl ?_
  refine K_ist S_L_law rfl rfl ?_
  refine K_ild S_L_law rfl rfl ?_
  refine K_if S_L_law rfl (fun c524 => False.elim (absurd c524 (by decide))) (fun c524 => ?_)
  refine K_ald S_L_law rfl rfl ?_
  refine K_C S_L_law rfl ?_
  refine K_C S_L_law rfl ?_
  refine K_C S_L_law rfl ?_
  refine K_CVx S_L_law rfl rfl (by assumption) (by omega) (by simp) (p1) rfl ?_
  refine K_C S_L_law rfl ?_
  refine K_cmp S_L_law rfl (fun c536 => False.elim (c536 rfl)) (fun c536 => ?_)
  refine K_ald S_L_law rfl rfl ?_
  refine K_C S_L_law rfl ?_
  refine K_C S_L_law rfl ?_
  refine K_C S_L_law rfl ?_
  refine K_CVx S_L_law rfl rfl (by assumption) (by omega) (by simp) (p2) rfl ?_
  refine K_C S_L_law rfl ?_
  refine K_cmp S_L_law rfl (fun c549 => False.elim (c549 rfl)) (fun c549 => ?_)
  refine K_ald S_L_law rfl rfl ?_
  refine K_C S_L_law rfl ?_
  refine K_C S_L_law rfl ?_
  refine K_CVx S_L_law rfl rfl (by assumption) (by omega) (by simp) (p3) rfl ?_
  refine K_C S_L_law rfl ?_
  refine K_cmp S_L_law rfl (fun c561 => False.elim (c561 rfl)) (fun c561 => ?_)
  refine K_ald S_L_law rfl rfl ?_
  refine K_C S_L_law rfl ?_
  refine K_CVx S_L_law rfl rfl (by assumption) (by omega) (by simp) (p4) rfl ?_
  refine K_C S_L_law rfl ?_
  refine K_cmp S_L_law rfl (fun c571 => False.elim (c571 rfl)) (fun c571 => ?_)
  refine K_ald S_L_law rfl rfl ?_
  refine K_C S_L_law rfl ?_
  refine K_C S_L_law rfl ?_
  refine K_CVx S_L_law rfl rfl (by assumption) (by omega) (by simp) (p5) rfl ?_
  refine K_C S_L_law rfl ?_
  refine K_cmp S_L_law rfl (fun c583 => False.elim (c583 rfl)) (fun c583 => ?_)
  refine K_ald S_L_law rfl rfl ?_
  refine K_C S_L_law rfl ?_
  refine K_C S_L_law rfl ?_
  refine K_CVx S_L_law rfl rfl (by assumption) (by omega) (by simp) (p6) rfl ?_
  refine K_C S_L_law rfl ?_
  refine K_cmp S_L_law rfl (fun c596 => False.elim (c596 rfl)) (fun c596 => ?_)
  refine K_ald S_L_law rfl rfl ?_
  refine K_ald S_L_law rfl rfl ?_
  refine K_C S_L_law rfl ?_
  refine K_cell (k := 7) rfl ⟨hN, by decide, by simp⟩ ⟨by decide, by decide⟩ dL_law_603 ?_
  refine K_C S_L_law rfl ?_
  refine K_div S_L_law rfl (by decide) ?_
  rw [e7]
  refine K_CVx S_L_law rfl rfl (by assumption) (by omega) (by simp) (p7) rfl ?_
  refine K_C S_L_law rfl ?_
  refine K_cmp S_L_law rfl (fun c613 => False.elim (c613 rfl)) (fun c613 => ?_)
  refine K_C S_L_law rfl ?_
  refine K_goto S_L_law rfl ?_
  refine K_ist S_L_law rfl rfl ?_
  refine K_ild S_L_law rfl rfl ?_
  refine K_if S_L_law rfl (fun c623 => False.elim (absurd c623 (by decide))) (fun c623 => ?_)
  refine K_ald S_L_law rfl rfl ?_
  refine K_C S_L_law rfl ?_
  refine K_CVx S_L_law rfl rfl (by assumption) (by omega) (by simp) (c15) rfl ?_
  refine K_ild S_L_law rfl rfl ?_
  refine K_cmp S_L_law rfl (fun c633 => False.elim (c633 rfl)) (fun c633 => ?_)
  refine K_ald S_L_law rfl rfl ?_
  skip
  refine K_CV S_L_law rfl rfl m0 (by omega) (by simp) ud ?_
  rintro _ _ ⟨J1, rfl, rfl, q1, q2, q3⟩
  have hc1 : CR J1 (fun j => p (2063 * n + j)) p o n L f := ⟨q2, q3, hc.2.2.1, by rw [q1 2 (by decide)]; exact hc.2.2.2.1, by rw [q1 3 (by decide)]; exact hc.2.2.2.2⟩
  have hA1 : AK (fun j => p (2063 * n + j)) := hA
  have th := T_holds ⟨p, o, n, L, f, hc1⟩ hA1
  refine K_ild S_L_law rfl rfl ?_
  refine K_C S_L_law rfl ?_
  refine K_bin S_L_law rfl ?_
  refine K_cmp S_L_law rfl (fun c643 => False.elim (c643 eU.symm)) (fun c643 => ?_)
  refine K_ald S_L_law rfl rfl ?_
  refine K_CS S_L_law rfl rfl (by simp) (th) ?_
  rintro _ _ ⟨J2, rfl, rfl, s2⟩
  refine K_if S_L_law rfl (fun c650 => False.elim (absurd c650 (by decide))) (fun c650 => ?_)
  refine K_C S_L_law rfl ?_
  refine K_goto S_L_law rfl ?_
  refine K_retZ S_L_law rfl (by decide) ?_
  rfl
/-- what a turn ends with -/
theorem law_turn {k : Nat} {w' : mv} {x4 x5 x6 x7 : Option mj_V} (hk : k < 26) (h : GS I w') (ha : AK w') (hd : D5 w' (cvN N xs 7 % 2) (k + 1)) (hn : ∀ (J : mj_I) (w2 : mv) (y4 y5 y6 y7 : Option mj_V), GS J w2 → AK w2 → D5 w2 (cvN N xs 7 % 2) (k + 1) → SJ D_L_law b N xs law_p 224 [rfs, rfo, some (.inl 1), some (.inl (nI (k + 1))), y4, y5, y6, y7] [] (mj_w J) lwz) :
    SJ D_L_law b N xs law_p 487 [rfs, rfo, some (.inl 1), some (.inl (nI k)), x4, x5, x6, x7] [] (mj_w I) lwz := by
  have m0 := s_0
  have e3 : nI k - nI k / 3 * 3 = nI (k % 3) := pk_rem (d := 3) (by omega) (by decide) (by decide)
  have l3 : k % 3 < 3 := Nat.mod_lt _ (by decide)
  have eI : nI k + 1 = nI (k + 1) := nI_add k 1
  have th := T_holds h.ls ha
  by_cases c : 0 < k % 3
  · refine K_ild S_L_law rfl rfl ?_
    refine K_if S_L_law rfl (fun c488 => False.elim (absurd c488 (by decide))) (fun c488 => ?_)
    refine K_ild S_L_law rfl rfl ?_
    refine K_C S_L_law rfl ?_
    refine K_div S_L_law rfl (by decide) ?_
    rw [e3]
    refine K_if S_L_law rfl (fun c494 => ?_) (fun c494 => False.elim (c494 (nI_lt (a := 0) c (by omega))))
    refine K_C S_L_law rfl ?_
    refine K_goto S_L_law rfl ?_
    refine K_ist S_L_law rfl rfl ?_
    refine K_inc S_L_law rfl rfl rfl ?_
    refine K_goto S_L_law rfl ?_
    rw [eI]
    exact hn _ _ _ _ _ _ h ha hd
  · refine K_ild S_L_law rfl rfl ?_
    refine K_if S_L_law rfl (fun c488 => False.elim (absurd c488 (by decide))) (fun c488 => ?_)
    refine K_ild S_L_law rfl rfl ?_
    refine K_C S_L_law rfl ?_
    refine K_div S_L_law rfl (by decide) ?_
    rw [e3]
    refine K_if S_L_law rfl (fun c494 => False.elim (by rw [show k % 3 = 0 by omega] at c494; exact absurd c494 (by decide))) (fun c494 => ?_)
    refine K_ald S_L_law rfl rfl ?_
    refine K_CS S_L_law rfl rfl (by simp) (th) ?_
    rintro _ _ ⟨J2, rfl, rfl, s2⟩
    refine K_if S_L_law rfl (fun c501 => False.elim (absurd c501 (by decide))) (fun c501 => ?_)
    refine K_C S_L_law rfl ?_
    refine K_goto S_L_law rfl ?_
    refine K_ist S_L_law rfl rfl ?_
    refine K_inc S_L_law rfl rfl rfl ?_
    refine K_goto S_L_law rfl ?_
    rw [eI]
    exact hn _ _ _ _ _ _ (GS_sc h s2) ha hd

theorem law_body {k : Nat} {x4 x5 x6 x7 : Option mj_V} (hN : N ≤ 260) (hk : k < 26) (h : GS I w) (ha : AK w) (hd : D5 w (cvN N xs 7 % 2) k) (hn : ∀ (J : mj_I) (w2 : mv) (y4 y5 y6 y7 : Option mj_V), GS J w2 → AK w2 → D5 w2 (cvN N xs 7 % 2) (k + 1) → SJ D_L_law b N xs law_p 224 [rfs, rfo, some (.inl 1), some (.inl (nI (k + 1))), y4, y5, y6, y7] [] (mj_w J) lwz) :
    SJ D_L_law b N xs law_p 224 [rfs, rfo, some (.inl 1), some (.inl (nI k)), x4, x5, x6, x7] [] (mj_w I) lwz := by
  have m0 := s_0
  have hl := h.ls
  obtain ⟨hR, hI, hZ⟩ := LKS_IV hl
  have lim := hI.1.2
  have dk := hd.2.1
  obtain ⟨Y, hY, eY⟩ : ∃ Y, Y < 2 ^ 31 ∧ cvN N xs (9 + k) = Y := ⟨_, (cv_e N xs (9 + k)).2, rfl⟩
  obtain ⟨z, hz, ez⟩ : ∃ z, z < 2 ^ 31 ∧ Y / 16 = z := ⟨_, by have := Nat.div_le_self Y 16; omega, rfl⟩
  have e9 : (9 : Int32) + nI k = nI (9 + k) := nI_add 9 k
  have d16 : nI Y / 16 = nI z := by rw [← ez]; exact pk_div (d := 16) hY (by decide) (by decide)
  have r16 : nI Y - nI Y / 16 * 16 = nI (Y % 16) := pk_rem (d := 16) hY (by decide) (by decide)
  have r5 : nI z - nI z / 5 * 5 = nI (z % 5) := pk_rem (d := 5) hz (by decide) (by decide)
  have v5 : z % 5 < 5 := Nat.mod_lt _ (by decide)
  have lt16 : Y % 16 < 16 := Nat.mod_lt _ (by decide)
  have d8 : nI z / 8 = nI (z / 8) := pk_div (d := 8) hz (by decide) (by decide)
  have z8 : z / 8 < 2 ^ 31 := by have := Nat.div_le_self z 8; omega
  have hv := hd.2.2.1 (z % 5) v5
  have turn : ∀ (J : mj_I) (w2 : mv) (y4 y5 y6 y7 : Option mj_V), GS J w2 → AK w2 → KV w w2 → SJ D_L_law b N xs law_p 487 [rfs, rfo, some (.inl 1), some (.inl (nI k)), y4, y5, y6, y7] [] (mj_w J) lwz := by
    intro J w2 y4 y5 y6 y7 g1 g2 g3
    exact law_turn hk g1 g2 (D5_KV hd g3) hn
  have sw : ∀ st, SJ D_L_law b N xs law_p 262 [rfs, rfo, some (.inl 1), some (.inl (nI k)), some (.inl (nI Y)), some (.inl (nI z)), some (.inl (nI (z % 5))), x7] (.inl (nI (Y % 16)) :: st) (mj_w I) lwz → st = [] → SJ D_L_law b N xs law_p 224 [rfs, rfo, some (.inl 1), some (.inl (nI k)), x4, x5, x6, x7] [] (mj_w I) lwz := by
    rintro st hs rfl
    refine K_ild S_L_law rfl rfl ?_
    refine K_C S_L_law rfl ?_
    refine K_cmp S_L_law rfl (fun c227 => False.elim (nI_ge (b := 26) hk (by decide) c227)) (fun c227 => ?_)
    refine K_ild S_L_law rfl rfl ?_
    refine K_if S_L_law rfl (fun c231 => False.elim (absurd c231 (by decide))) (fun c231 => ?_)
    refine K_ald S_L_law rfl rfl ?_
    refine K_C S_L_law rfl ?_
    refine K_ild S_L_law rfl rfl ?_
    refine K_bin S_L_law rfl ?_
    rw [e9]
    refine K_cell (k := 9 + k) rfl ⟨hN, by omega, by simp⟩ ⟨by decide, by decide⟩ dL_law_239 ?_
    rw [eY]
    refine K_ist S_L_law rfl rfl ?_
    refine K_ild S_L_law rfl rfl ?_
    refine K_C S_L_law rfl ?_
    refine K_div S_L_law rfl (by decide) ?_
    rw [d16]
    refine K_ist S_L_law rfl rfl ?_
    refine K_ild S_L_law rfl rfl ?_
    refine K_C S_L_law rfl ?_
    refine K_div S_L_law rfl (by decide) ?_
    rw [r5]
    refine K_ist S_L_law rfl rfl ?_
    refine K_ild S_L_law rfl rfl ?_
    refine K_C S_L_law rfl ?_
    refine K_div S_L_law rfl (by decide) ?_
    rw [r16]
    exact hs
  refine sw [] ?_ rfl
  rcases (show Y % 16 < 2 ∨ (Y % 16 = 2 ∨ Y % 16 = 3) ∨ Y % 16 = 4 ∨ Y % 16 = 5 ∨ Y % 16 = 6 ∨ Y % 16 = 7 ∨ 8 ≤ Y % 16 by omega) with c | c | c | c | c | c | c
  · have tk := T_ticks h ha
    have go : SJ D_L_law b N xs law_p 308 [rfs, rfo, some (.inl 1), some (.inl (nI k)), some (.inl (nI Y)), some (.inl (nI z)), some (.inl (nI (z % 5))), x7] [] (mj_w I) lwz := by
      refine K_ald S_L_law rfl rfl ?_
      refine K_CS S_L_law rfl rfl (by simp) (tk) ?_
      rintro _ _ ⟨J1, rfl, rfl, w2, g1, g2, g3⟩
      refine K_ist S_L_law rfl rfl ?_
      refine K_goto S_L_law rfl ?_
      exact turn _ _ _ _ _ _ g1 g2 g3
    rcases (show Y % 16 = 0 ∨ Y % 16 = 1 by omega) with c | c
    · rw [c]
      refine K_sw S_L_law rfl ⟨fun _ => ?_, fun c => False.elim (by revert c; decide)⟩
      exact go
    · rw [c]
      refine K_sw S_L_law rfl ⟨fun c => False.elim (by revert c; decide), fun _ => ⟨fun _ => ?_, fun c => False.elim (by revert c; decide)⟩⟩
      exact go
  · have r30 : nI (z / 8) - nI (z / 8) / 30 * 30 = nI (z / 8 % 30) := pk_rem (d := 30) z8 (by decide) (by decide)
    have l30 : z / 8 % 30 < 30 := Nat.mod_lt _ (by decide)
    have e1 : (1 : Int32) + nI (z / 8 % 30) = nI (1 + z / 8 % 30) := nI_add 1 _
    have tp := T_pays h ha (k := z % 5) (c := 1 + z / 8 % 30) (by omega) hv (by omega) (by omega)
    have go : SJ D_L_law b N xs law_p 316 [rfs, rfo, some (.inl 1), some (.inl (nI k)), some (.inl (nI Y)), some (.inl (nI z)), some (.inl (nI (z % 5))), x7] [] (mj_w I) lwz := by
      refine K_ald S_L_law rfl rfl ?_
      refine K_ild S_L_law rfl rfl ?_
      refine K_C S_L_law rfl ?_
      refine K_ild S_L_law rfl rfl ?_
      refine K_C S_L_law rfl ?_
      refine K_div S_L_law rfl (by decide) ?_
      rw [d8]
      refine K_C S_L_law rfl ?_
      refine K_div S_L_law rfl (by decide) ?_
      rw [r30]
      refine K_bin S_L_law rfl ?_
      rw [e1]
      refine K_CS S_L_law rfl rfl (by simp) (tp) ?_
      rintro _ _ ⟨J1, rfl, rfl, w2, g1, g2, g3⟩
      refine K_ist S_L_law rfl rfl ?_
      refine K_goto S_L_law rfl ?_
      exact turn _ _ _ _ _ _ g1 g2 g3
    rcases c with c | c
    · rw [c]
      refine K_sw S_L_law rfl ⟨fun c => False.elim (by revert c; decide), fun _ => ⟨fun c => False.elim (by revert c; decide), fun _ => ⟨fun _ => ?_, fun c => False.elim (by revert c; decide)⟩⟩⟩
      exact go
    · rw [c]
      refine K_sw S_L_law rfl ⟨fun c => False.elim (by revert c; decide), fun _ => ⟨fun c => False.elim (by revert c; decide), fun _ => ⟨fun c => False.elim (by revert c; decide), fun _ => ⟨fun _ => ?_, fun c => False.elim (by revert c; decide)⟩⟩⟩⟩
      exact go
  · have tf := T_founds h ha (k := z % 5) (by omega) hv
    rw [c]
    refine K_sw S_L_law rfl ⟨fun c => False.elim (by revert c; decide), fun _ => ⟨fun c => False.elim (by revert c; decide), fun _ => ⟨fun c => False.elim (by revert c; decide), fun _ => ⟨fun c => False.elim (by revert c; decide), fun _ => ⟨fun _ => ?_, fun c => False.elim (by revert c; decide)⟩⟩⟩⟩⟩
    refine K_ald S_L_law rfl rfl ?_
    refine K_ild S_L_law rfl rfl ?_
    refine K_CS S_L_law rfl rfl (by simp) (tf) ?_
    rintro _ _ ⟨J1, rfl, rfl, w2, g1, g2, g3⟩
    refine K_ist S_L_law rfl rfl ?_
    refine K_goto S_L_law rfl ?_
    exact turn _ _ _ _ _ _ g1 g2 g3
  · have c0 := G_c0 hl
    rw [hI.1.1] at c0
    have eE : nI (tn (w 0)) + 1 = nI (tn (w 0) + 1) := nI_add _ 1
    have rE : nI (z / 8) - nI (z / 8) / nI (tn (w 0) + 1) * nI (tn (w 0) + 1) = nI (z / 8 % (tn (w 0) + 1)) := pk_rem z8 (by omega) (by omega)
    have lE : z / 8 % (tn (w 0) + 1) < tn (w 0) + 1 := Nat.mod_lt _ (by omega)
    have nz : ¬ nI (tn (w 0) + 1) = 0 := nI_ne0 (by omega) (by omega)
    have ta := T_asks hl (k := z % 5) (n := z / 8 % (tn (w 0) + 1)) (by omega) hv (by omega)
    rw [c]
    refine K_sw S_L_law rfl ⟨fun c => False.elim (by revert c; decide), fun _ => ⟨fun c => False.elim (by revert c; decide), fun _ => ⟨fun c => False.elim (by revert c; decide), fun _ => ⟨fun c => False.elim (by revert c; decide), fun _ => ⟨fun c => False.elim (by revert c; decide), fun _ => ⟨fun _ => ?_, fun c => False.elim (by revert c; decide)⟩⟩⟩⟩⟩⟩
    refine K_ald S_L_law rfl rfl ?_
    refine K_ild S_L_law rfl rfl ?_
    refine K_ild S_L_law rfl rfl ?_
    refine K_C S_L_law rfl ?_
    refine K_div S_L_law rfl (by decide) ?_
    rw [d8]
    refine K_ald S_L_law rfl rfl ?_
    refine K_C S_L_law rfl ?_
    refine K_CVx S_L_law rfl rfl (by assumption) (by omega) (by simp) (c0) rfl ?_
    refine K_C S_L_law rfl ?_
    refine K_bin S_L_law rfl ?_
    rw [eE]
    refine K_div S_L_law rfl nz ?_
    rw [rE]
    refine K_CS S_L_law rfl rfl (by simp) (ta) ?_
    rintro _ _ ⟨J1, rfl, rfl, s1⟩
    refine K_ist S_L_law rfl rfl ?_
    refine K_goto S_L_law rfl ?_
    exact turn _ _ _ _ _ _ (GS_sc h s1) ha KV_rf
  · have r6 : nI z - nI z / 6 * 6 = nI (z % 6) := pk_rem (d := 6) hz (by decide) (by decide)
    have l6 : z % 6 < 6 := Nat.mod_lt _ (by decide)
    have e1 : (1 : Int32) + nI (z % 6) = nI (1 + z % 6) := nI_add 1 _
    have ts := G_set h ha (j := 1) (k := 1 + z % 6) (by decide) (by show 1 ≤ 1 + z % 6; omega) (by show 1 + z % 6 ≤ 20; omega)
    have w10 := hI.2.2.2.1 1 (by decide)
    have ge1 : ¬ w (9 + 1) < 1 := by
      rw [w10.1.1]
      exact nI_nlt (b := 1) w10.2 (tn_lt _)
    rw [c]
    refine K_sw S_L_law rfl ⟨fun c => False.elim (by revert c; decide), fun _ => ⟨fun c => False.elim (by revert c; decide), fun _ => ⟨fun c => False.elim (by revert c; decide), fun _ => ⟨fun c => False.elim (by revert c; decide), fun _ => ⟨fun c => False.elim (by revert c; decide), fun _ => ⟨fun c => False.elim (by revert c; decide), fun _ => ⟨fun _ => ?_, fun c => False.elim (by revert c; decide)⟩⟩⟩⟩⟩⟩⟩
    refine K_ald S_L_law rfl rfl ?_
    refine K_C S_L_law rfl ?_
    refine K_C S_L_law rfl ?_
    refine K_ild S_L_law rfl rfl ?_
    refine K_C S_L_law rfl ?_
    refine K_div S_L_law rfl (by decide) ?_
    rw [r6]
    refine K_bin S_L_law rfl ?_
    rw [e1]
    refine K_CV S_L_law rfl rfl (by assumption) (by omega) (by simp) (ts) ?_
    rintro _ _ ⟨J1, rfl, rfl, g1⟩
    refine K_C S_L_law rfl ?_
    refine K_cmp S_L_law rfl (fun c382 => False.elim (ge1 c382)) (fun c382 => ?_)
    refine K_C S_L_law rfl ?_
    refine K_goto S_L_law rfl ?_
    refine K_ist S_L_law rfl rfl ?_
    refine K_goto S_L_law rfl ?_
    exact turn _ _ _ _ _ _ g1 (AK_same ha (fun i h1 h2 => up_n (by omega))) (KV_set (by decide))
  · have r3 : nI z - nI z / 3 * 3 = nI (z % 3) := pk_rem (d := 3) hz (by decide) (by decide)
    have l3 : z % 3 < 3 := Nat.mod_lt _ (by decide)
    have ts := G_set h ha (j := 5) (k := z % 3) (by decide) (by show 0 ≤ z % 3; omega) (by show z % 3 ≤ 2; omega)
    have w14 := hI.2.2.2.1 5 (by decide)
    have ge0 : ¬ w (9 + 5) < 0 := by
      rw [w14.1.1]
      exact nI_pos (tn_lt _)
    rw [c]
    refine K_sw S_L_law rfl ⟨fun c => False.elim (by revert c; decide), fun _ => ⟨fun c => False.elim (by revert c; decide), fun _ => ⟨fun c => False.elim (by revert c; decide), fun _ => ⟨fun c => False.elim (by revert c; decide), fun _ => ⟨fun c => False.elim (by revert c; decide), fun _ => ⟨fun c => False.elim (by revert c; decide), fun _ => ⟨fun c => False.elim (by revert c; decide), fun _ => ⟨fun _ => ?_, fun c => False.elim (by revert c; decide)⟩⟩⟩⟩⟩⟩⟩⟩
    refine K_ald S_L_law rfl rfl ?_
    refine K_C S_L_law rfl ?_
    refine K_ild S_L_law rfl rfl ?_
    refine K_C S_L_law rfl ?_
    refine K_div S_L_law rfl (by decide) ?_
    rw [r3]
    refine K_CV S_L_law rfl rfl (by assumption) (by omega) (by simp) (ts) ?_
    rintro _ _ ⟨J1, rfl, rfl, g1⟩
    refine K_if S_L_law rfl (fun c403 => False.elim (ge0 c403)) (fun c403 => ?_)
    refine K_C S_L_law rfl ?_
    refine K_goto S_L_law rfl ?_
    refine K_ist S_L_law rfl rfl ?_
    refine K_goto S_L_law rfl ?_
    exact turn _ _ _ _ _ _ g1 (AK_same ha (fun i h1 h2 => up_n (by omega))) (KV_set (by decide))
  · have c0 := G_c0 hl
    rw [hI.1.1] at c0
    have r2 : nI z - nI z / 2 * 2 = nI (z % 2) := pk_rem (d := 2) hz (by decide) (by decide)
    have l2 : z % 2 < 2 := Nat.mod_lt _ (by decide)
    have d2 : nI z / 2 = nI (z / 2) := pk_div (d := 2) hz (by decide) (by decide)
    have r12 : nI (z / 2) - nI (z / 2) / 12 * 12 = nI (z / 2 % 12) := pk_rem (d := 12) (by have := Nat.div_le_self z 2; omega) (by decide) (by decide)
    have l12 : z / 2 % 12 < 12 := Nat.mod_lt _ (by decide)
    have d32 : nI z / 32 = nI (z / 32) := pk_div (d := 32) hz (by decide) (by decide)
    have r101 : nI (z / 32) - nI (z / 32) / 101 * 101 = nI (z / 32 % 101) := pk_rem (d := 101) (by have := Nat.div_le_self z 32; omega) (by decide) (by decide)
    have l101 : z / 32 % 101 < 101 := Nat.mod_lt _ (by decide)
    obtain ⟨v, hv1, hv2, hv3⟩ : ∃ v : Int32, nI (z / 32 % 101) - 1 = v ∧ (-1 ≤ v ∧ v ≤ 99) ∧ (v = -1 ∨ rg v 99) := by
      refine ⟨_, rfl, ?_⟩
      generalize z / 32 % 101 = q at l101
      rcases Nat.eq_zero_or_pos q with rfl | hq
      · exact ⟨⟨by decide, by decide⟩, Or.inl (by decide)⟩
      · rw [show nI q - 1 = nI (q - 1) from pk_sub (a := q) (b := 1) hq]
        exact ⟨⟨ge_m1 (Or.inr (rg_nI (m := 99) (by omega) (by decide))), nI_le (b := 99) (by omega) (by decide)⟩, Or.inr (rg_nI (by omega) (by decide))⟩
    have lt200 : tn (w 0) < 200 := by omega
    have tp := G_put h ha (ja := z % 2) (jb := z / 2 % 12) (by omega) (by omega) hv2 hv3 lt200
    have pn := put_n hI lt200 (a := nI (z % 2)) (c := nI (z / 2 % 12)) (x := v)
    have pe := (put_e (v := w) (a := nI (z % 2)) (c := nI (z / 2 % 12)) (x := v)).2.2.1
    have pI := put_I hI lt200 (a := nI (z % 2)) (c := nI (z / 2 % 12)) (x := v) (rg_nI (by omega) (by decide)) (rg_nI (by omega) (by decide)) hv3
    have eE : nI (tn (w 0)) + 1 = nI (tn (w 0) + 1) := nI_add _ 1
    have kp := fun k f => put_k (v := w) lt200 (a := nI (z % 2)) (c := nI (z / 2 % 12)) (x := v) k f
    have p1 : putV w (nI (z % 2)) (nI (z / 2 % 12)) v 1 = w 1 := put_o (by decide) (by omega)
    have pA : AK (putV w (nI (z % 2)) (nI (z / 2 % 12)) v) := AK_same ha (fun i h1 h2 => put_o (by omega) (by omega))
    generalize putV w (nI (z % 2)) (nI (z / 2 % 12)) v = w2 at tp pn pe pI kp p1 pA
    have d2' : D5 w2 (cvN N xs 7 % 2) (k + 1) := by
      obtain ⟨h1, h2, h3, h4, h5⟩ := hd
      exact ⟨by rw [p1]; exact h1, by rw [pn.2]; omega, fun j hj => by rw [kp]; exact h3 j hj, by rw [kp]; exact h4, by rw [kp]; exact h5⟩
    have c0' : ∀ J, GS J w2 → mj_R D_X9_count [.inr (some 0), .inl (nI 0)] (mj_w J) (mj_ex (some (.inl (nI (tn (w 0) + 1)))) J) := by
      intro J hJ
      rw [← pn.1]
      exact G_c0 hJ.ls
    have ch : ∀ J, GS J w2 → mj_R D_X9_change [.inr (some 0), .inl (nI (tn (w 0))), .inl (nI 1)] (mj_w J) (mj_ex (some (.inl (nI (z / 2 % 12)))) J) := by
      intro J hJ
      have g := X9_change_ok (I := J) (LKS_IV hJ.ls).1 pI (j := tn (w 0)) (b := 1) (by rw [pn.2]; omega) (by decide)
      rw [show chV w2 (tn (w 0)) 1 = nI (z / 2 % 12) from by
        unfold chV
        rw [if_neg (by decide), show 15 + 3 * tn (w 0) + 1 = 16 + 3 * tn (w 0) by omega]
        exact pe] at g
      exact g
    have hd8 : ∀ q : Nat, q < 8 → ¬ nI (Y % 16) = nI q := fun q hq e => by
      have := (nI_eq (by omega) (by omega)).mp e
      omega
    have go : SJ D_L_law b N xs law_p 415 [rfs, rfo, some (.inl 1), some (.inl (nI k)), some (.inl (nI Y)), some (.inl (nI z)), some (.inl (nI (z % 5))), x7] [] (mj_w I) lwz := by
      refine K_ald S_L_law rfl rfl ?_
      refine K_C S_L_law rfl ?_
      refine K_CVx S_L_law rfl rfl (by assumption) (by omega) (by simp) (c0) rfl ?_
      refine K_ist S_L_law rfl rfl ?_
      refine K_ald S_L_law rfl rfl ?_
      refine K_ild S_L_law rfl rfl ?_
      refine K_C S_L_law rfl ?_
      refine K_div S_L_law rfl (by decide) ?_
      rw [r2]
      refine K_ild S_L_law rfl rfl ?_
      refine K_C S_L_law rfl ?_
      refine K_div S_L_law rfl (by decide) ?_
      rw [d2]
      refine K_C S_L_law rfl ?_
      refine K_div S_L_law rfl (by decide) ?_
      rw [r12]
      refine K_ild S_L_law rfl rfl ?_
      refine K_C S_L_law rfl ?_
      refine K_div S_L_law rfl (by decide) ?_
      rw [d32]
      refine K_C S_L_law rfl ?_
      refine K_div S_L_law rfl (by decide) ?_
      rw [r101]
      refine K_C S_L_law rfl ?_
      refine K_bin S_L_law rfl ?_
      rw [hv1]
      refine K_CV S_L_law rfl rfl (by assumption) (by omega) (by simp) (tp) ?_
      rintro _ _ ⟨J1, rfl, rfl, g1⟩
      refine K_ild S_L_law rfl rfl ?_
      refine K_cmp S_L_law rfl (fun c449 => False.elim (c449 rfl)) (fun c449 => ?_)
      refine K_ald S_L_law rfl rfl ?_
      refine K_C S_L_law rfl ?_
      refine K_CVx S_L_law rfl rfl (by assumption) (by omega) (by simp) (c0' _ g1) rfl ?_
      refine K_ild S_L_law rfl rfl ?_
      refine K_C S_L_law rfl ?_
      refine K_bin S_L_law rfl ?_
      rw [eE]
      refine K_cmp S_L_law rfl (fun c461 => False.elim (c461 rfl)) (fun c461 => ?_)
      refine K_ald S_L_law rfl rfl ?_
      refine K_ild S_L_law rfl rfl ?_
      refine K_C S_L_law rfl ?_
      refine K_CVx S_L_law rfl rfl (by assumption) (by omega) (by simp) (ch _ g1) rfl ?_
      refine K_ild S_L_law rfl rfl ?_
      refine K_C S_L_law rfl ?_
      refine K_div S_L_law rfl (by decide) ?_
      rw [d2]
      refine K_C S_L_law rfl ?_
      refine K_div S_L_law rfl (by decide) ?_
      rw [r12]
      refine K_cmp S_L_law rfl (fun c478 => False.elim (c478 rfl)) (fun c478 => ?_)
      refine K_C S_L_law rfl ?_
      refine K_goto S_L_law rfl ?_
      refine K_ist S_L_law rfl rfl ?_
      exact law_turn hk g1 pA d2' hn
    refine K_sw S_L_law rfl ⟨fun c => absurd c (hd8 0 (by decide)), fun _ => ⟨fun c => absurd c (hd8 1 (by decide)), fun _ => ⟨fun c => absurd c (hd8 2 (by decide)), fun _ => ⟨fun c => absurd c (hd8 3 (by decide)), fun _ => ⟨fun c => absurd c (hd8 4 (by decide)), fun _ => ⟨fun c => absurd c (hd8 5 (by decide)), fun _ => ⟨fun c => absurd c (hd8 6 (by decide)), fun _ => ⟨fun c => absurd c (hd8 7 (by decide)), fun _ => ?_⟩⟩⟩⟩⟩⟩⟩⟩
    exact go
theorem law_loop2 (hN : N ≤ 260) : ∀ (s k : Nat) (J : mj_I) (w2 : mv) (y4 y5 y6 y7 : Option mj_V), k + s = 26 → GS J w2 → AK w2 → D5 w2 (cvN N xs 7 % 2) k → SJ D_L_law b N xs law_p 224 [rfs, rfo, some (.inl 1), some (.inl (nI k)), y4, y5, y6, y7] [] (mj_w J) lwz := by
  intro s
  induction s with
  | zero =>
    intro k J w2 y4 y5 y6 y7 hk h ha hd
    obtain rfl : k = 26 := by omega
    have m0 := s_0
    refine K_ild S_L_law rfl rfl ?_
    refine K_C S_L_law rfl ?_
    refine K_cmp S_L_law rfl (fun c227 => ?_) (fun c227 => False.elim (c227 (by decide)))
    exact law_end hN h ha hd
  | succ s ih =>
    intro k J w2 y4 y5 y6 y7 hk h ha hd
    exact law_body hN (by omega) h ha hd (fun J2 w3 z4 z5 z6 z7 g1 g2 g3 => ih (k + 1) J2 w3 z4 z5 z6 z7 (by omega) g1 g2 g3)

/-- the fifth view -/
theorem law_five {x4 x5 x6 x7 : Option mj_V} (hN : N ≤ 260) (h : GS I w) (ha : AK w) (hd : D4 w 4) : SJ D_L_law b N xs law_p 180 [rfs, rfo, some (.inl 1), some (.inl (nI 4)), x4, x5, x6, x7] [] (mj_w I) lwz := by
  have m0 := s_0
  have hl := h.ls
  obtain ⟨hR, hI, hZ⟩ := LKS_IV hl
  obtain ⟨d1, d0, dv⟩ := hd
  obtain ⟨X, hX, eX⟩ : ∃ X, X < 2 ∧ cvN N xs 7 % 2 = X := ⟨_, Nat.mod_lt _ (by decide), rfl⟩
  obtain ⟨Z, hZ2, eZ⟩ : ∃ Z, Z < 2 ∧ cvN N xs 8 % 2 = Z := ⟨_, Nat.mod_lt _ (by decide), rfl⟩
  have r7 : nI (cvN N xs 7) - nI (cvN N xs 7) / 2 * 2 = nI X := by rw [← eX]; exact pk_rem (d := 2) (cv_e N xs 7).2 (by decide) (by decide)
  have r8 : nI (cvN N xs 8) - nI (cvN N xs 8) / 2 * 2 = nI Z := by rw [← eZ]; exact pk_rem (d := 2) (cv_e N xs 8).2 (by decide) (by decide)
  have e2 : (2 : Int32) + nI Z = nI (2 + Z) := nI_add 2 Z
  have tt := G_tells hl (kd := 4) (tb := 0) (a := X) (b := 2 + Z) (by decide) (by decide) (by omega) (by omega)
  have hm : mayD w (nI 4) (nI X) (nI (2 + Z)) = true := by
    unfold mayD
    rw [if_pos (show nI 4 = 4 by decide), isV_nI (k := X) (by omega), isV_nI (k := 2 + Z) (by omega), ex_t (dv X (by omega)), ex_t (dv (2 + Z) (by omega)), show decide (nI X = nI (2 + Z)) = false from decide_eq_false (fun q => by
      have := (nI_eq (by omega) (by omega)).mp q
      omega)]
    rfl
  have td := fun J (hx : TXT I J (txL 4 0 X (2 + Z))) => G_define (kd := 4) (tb := 0) (a := X) (b := 2 + Z) h ha (by decide) (by decide) (by omega) (by omega) hx hm (by omega)
  rw [d1] at td
  have hI5 := D4_def (kd := nI 4) (tb := nI (txT 4 0)) (a := nI X) (b := nI (2 + Z)) hI ⟨d1, d0, dv⟩ (by decide)
  have q := def_e (v := w) (kd := nI 4) (tb := nI (txT 4 0)) (f := nI X) (l := nI (2 + Z))
  rw [d1] at q
  have d5 : D5 (defV w (nI 4) (nI (txT 4 0)) (nI X) (nI (2 + Z))) (cvN N xs 7 % 2) 0 := by
    refine ⟨hI5.1, by rw [hI5.2.1]; decide, hI5.2.2, q.1, ?_⟩
    rw [eX]; exact q.2.2.1
  refine K_ald S_L_law rfl rfl ?_
  refine K_C S_L_law rfl ?_
  refine K_C S_L_law rfl ?_
  refine K_ald S_L_law rfl rfl ?_
  refine K_C S_L_law rfl ?_
  refine K_cell (k := 7) rfl ⟨hN, by decide, by simp⟩ ⟨by decide, by decide⟩ dL_law_186 ?_
  refine K_C S_L_law rfl ?_
  refine K_div S_L_law rfl (by decide) ?_
  rw [r7]
  refine K_C S_L_law rfl ?_
  refine K_ald S_L_law rfl rfl ?_
  refine K_C S_L_law rfl ?_
  refine K_cell (k := 8) rfl ⟨hN, by decide, by simp⟩ ⟨by decide, by decide⟩ dL_law_195 ?_
  refine K_C S_L_law rfl ?_
  refine K_div S_L_law rfl (by decide) ?_
  rw [r8]
  refine K_bin S_L_law rfl ?_
  rw [e2]
  refine K_CS S_L_law rfl rfl (by simp) (tt) ?_
  rintro _ _ ⟨J1, rfl, rfl, hx⟩
  refine K_ild S_L_law rfl rfl ?_
  refine K_if S_L_law rfl (fun c205 => False.elim (absurd c205 (by decide))) (fun c205 => ?_)
  refine K_ald S_L_law rfl rfl ?_
  refine K_CV S_L_law rfl rfl (by assumption) (by omega) (by simp) (td _ hx) ?_
  rintro _ _ ⟨J2, rfl, rfl, g1⟩
  refine K_C S_L_law rfl ?_
  refine K_cmp S_L_law rfl (fun c213 => False.elim (c213 rfl)) (fun c213 => ?_)
  refine K_C S_L_law rfl ?_
  refine K_goto S_L_law rfl ?_
  refine K_ist S_L_law rfl rfl ?_
  refine K_C S_L_law rfl ?_
  refine K_ist S_L_law rfl rfl ?_
  exact law_loop2 hN 26 0 _ _ _ _ _ _ rfl g1 (AK_def ha) d5
theorem law_loop1 (hN : N ≤ 260) : ∀ (s k : Nat) (J : mj_I) (w2 : mv) (y4 y5 y6 y7 : Option mj_V), k + s = 4 → GS J w2 → AK w2 → D4 w2 k → SJ D_L_law b N xs law_p 95 [rfs, rfo, some (.inl 1), some (.inl (nI k)), y4, y5, y6, y7] [] (mj_w J) lwz := by
  intro s
  induction s with
  | zero =>
    intro k J w2 y4 y5 y6 y7 hk h ha hd
    obtain rfl : k = 4 := by omega
    have m0 := s_0
    refine K_ild S_L_law rfl rfl ?_
    refine K_C S_L_law rfl ?_
    refine K_cmp S_L_law rfl (fun c97 => ?_) (fun c97 => False.elim (c97 (by decide)))
    exact law_five hN h ha hd
  | succ s ih =>
    intro k J w2 y4 y5 y6 y7 hk h ha hd
    have m0 := s_0
    have hl := h.ls
    obtain ⟨hR, hI, hZ⟩ := LKS_IV hl
    have d1 := hd.1
    obtain ⟨Y, hY, eY⟩ : ∃ Y, Y < 2 ^ 31 ∧ cvN N xs (3 + k) = Y := ⟨_, (cv_e N xs (3 + k)).2, rfl⟩
    have e3 : (3 : Int32) + nI k = nI (3 + k) := nI_add 3 k
    have eI : nI k + 1 = nI (k + 1) := nI_add k 1
    obtain ⟨A, hA, eA⟩ : ∃ A, A < 12 ∧ Y % 12 = A := ⟨_, Nat.mod_lt _ (by decide), rfl⟩
    have r12 : nI Y - nI Y / 12 * 12 = nI A := by rw [← eA]; exact pk_rem (d := 12) hY (by decide) (by decide)
    have d16 : nI Y / 16 = nI (Y / 16) := pk_div (d := 16) hY (by decide) (by decide)
    have s12 : (12 : Int32) - nI A = nI (12 - A) := pk_sub (a := 12) (by omega)
    have nz : ¬ nI (12 - A) = 0 := nI_ne0 (by omega) (by omega)
    obtain ⟨R, hR2, eR⟩ : ∃ R, R < 12 - A ∧ Y / 16 % (12 - A) = R := ⟨_, Nat.mod_lt _ (by omega), rfl⟩
    have rR : nI (Y / 16) - nI (Y / 16) / nI (12 - A) * nI (12 - A) = nI R := by rw [← eR]; exact pk_rem (by have := Nat.div_le_self Y 16; omega) (by omega) (by omega)
    have eB : nI A + nI R = nI (A + R) := nI_add A R
    have d256 : nI Y / 256 = nI (Y / 256) := pk_div (d := 256) hY (by decide) (by decide)
    obtain ⟨K, hK, eK⟩ : ∃ K, K < 4 ∧ Y / 256 % 4 = K := ⟨_, Nat.mod_lt _ (by decide), rfl⟩
    have r4 : nI (Y / 256) - nI (Y / 256) / 4 * 4 = nI K := by rw [← eK]; exact pk_rem (d := 4) (by have := Nat.div_le_self Y 256; omega) (by decide) (by decide)
    have d1024 : nI Y / 1024 = nI (Y / 1024) := pk_div (d := 1024) hY (by decide) (by decide)
    obtain ⟨T, hT, eT⟩ : ∃ T, T < 2 ∧ Y / 1024 % 2 = T := ⟨_, Nat.mod_lt _ (by decide), rfl⟩
    have r2 : nI (Y / 1024) - nI (Y / 1024) / 2 * 2 = nI T := by rw [← eT]; exact pk_rem (d := 2) (by have := Nat.div_le_self Y 1024; omega) (by decide) (by decide)
    have tt := G_tells hl (kd := K) (tb := T) (a := A) (b := A + R) (by omega) hT hA (by omega)
    have hm : mayD w2 (nI K) (nI A) (nI (A + R)) = true := by
      unfold mayD
      rw [if_neg (show ¬ nI K = 4 from fun q => by
        have := (nI_eq (b := 4) (by omega) (by decide)).mp q
        omega), decide_eq_true (show nI A ≤ nI (A + R) from nI_le (by omega) (by omega)), decide_eq_true (show nI (A + R) < 12 from nI_lt (b := 12) (by omega) (by decide))]
      rfl
    have td := fun J2 (hx : TXT J J2 (txL K T A (A + R))) => G_define (kd := K) (tb := T) (a := A) (b := A + R) h ha (by omega) hT hA (by omega) hx hm (by omega)
    rw [d1] at td
    have g4 := D4_def (kd := nI K) (tb := nI (txT K T)) (a := nI A) (b := nI (A + R)) hI hd (by omega)
    refine K_ild S_L_law rfl rfl ?_
    refine K_C S_L_law rfl ?_
    refine K_cmp S_L_law rfl (fun c97 => False.elim (nI_ge (b := 4) (show k < 4 by omega) (by decide) c97)) (fun c97 => ?_)
    refine K_ild S_L_law rfl rfl ?_
    refine K_if S_L_law rfl (fun c101 => False.elim (absurd c101 (by decide))) (fun c101 => ?_)
    refine K_ald S_L_law rfl rfl ?_
    refine K_C S_L_law rfl ?_
    refine K_ild S_L_law rfl rfl ?_
    refine K_bin S_L_law rfl ?_
    rw [e3]
    refine K_cell (k := 3 + k) rfl ⟨hN, by omega, by simp⟩ ⟨by decide, by decide⟩ dL_law_108 ?_
    rw [eY]
    refine K_ist S_L_law rfl rfl ?_
    refine K_ild S_L_law rfl rfl ?_
    refine K_C S_L_law rfl ?_
    refine K_div S_L_law rfl (by decide) ?_
    rw [r12]
    refine K_ist S_L_law rfl rfl ?_
    refine K_ild S_L_law rfl rfl ?_
    refine K_ild S_L_law rfl rfl ?_
    refine K_C S_L_law rfl ?_
    refine K_div S_L_law rfl (by decide) ?_
    rw [d16]
    refine K_C S_L_law rfl ?_
    refine K_ild S_L_law rfl rfl ?_
    refine K_bin S_L_law rfl ?_
    rw [s12]
    refine K_div S_L_law rfl nz ?_
    rw [rR]
    refine K_bin S_L_law rfl ?_
    rw [eB]
    refine K_ist S_L_law rfl rfl ?_
    refine K_ald S_L_law rfl rfl ?_
    refine K_ild S_L_law rfl rfl ?_
    refine K_C S_L_law rfl ?_
    refine K_div S_L_law rfl (by decide) ?_
    rw [d256]
    refine K_C S_L_law rfl ?_
    refine K_div S_L_law rfl (by decide) ?_
    rw [r4]
    refine K_ild S_L_law rfl rfl ?_
    refine K_C S_L_law rfl ?_
    refine K_div S_L_law rfl (by decide) ?_
    rw [d1024]
    refine K_C S_L_law rfl ?_
    refine K_div S_L_law rfl (by decide) ?_
    rw [r2]
    refine K_ild S_L_law rfl rfl ?_
    refine K_ild S_L_law rfl rfl ?_
    refine K_CS S_L_law rfl rfl (by simp) (tt) ?_
    rintro _ _ ⟨J1, rfl, rfl, hx⟩
    refine K_ald S_L_law rfl rfl ?_
    refine K_CV S_L_law rfl rfl (by assumption) (by omega) (by simp) (td _ hx) ?_
    rintro _ _ ⟨J2, rfl, rfl, g1⟩
    refine K_ild S_L_law rfl rfl ?_
    refine K_cmp S_L_law rfl (fun c165 => False.elim (c165 rfl)) (fun c165 => ?_)
    refine K_C S_L_law rfl ?_
    refine K_goto S_L_law rfl ?_
    refine K_ist S_L_law rfl rfl ?_
    refine K_inc S_L_law rfl rfl rfl ?_
    refine K_goto S_L_law rfl ?_
    rw [eI]
    exact ih (k + 1) _ _ _ _ _ _ (by omega) g1 (AK_def ha) g4
/-- the first calls -/
theorem law_first (hN : N ≤ 260) (h : CR I wI (fun _ => 0) 0 0 0 (fun _ => 0)) : SJ D_L_law b N xs law_p 8 [rfs, rfo, none, none, none, none, none, none] [] (mj_w I) lwz := by
  have m0 := s_0
  have th := T_holds ⟨_, _, _, _, _, h⟩ wI_A
  obtain ⟨A, hA, eA⟩ : ∃ A, A < 6 ∧ cvN N xs 0 % 6 = A := ⟨_, Nat.mod_lt _ (by decide), rfl⟩
  obtain ⟨B, hB, eB⟩ : ∃ B, B < 60 ∧ cvN N xs 1 % 60 = B := ⟨_, Nat.mod_lt _ (by decide), rfl⟩
  obtain ⟨C, hC, eC⟩ : ∃ C, C < 2 ∧ cvN N xs 2 % 2 = C := ⟨_, Nat.mod_lt _ (by decide), rfl⟩
  have rA : nI (cvN N xs 0) - nI (cvN N xs 0) / 6 * 6 = nI A := by rw [← eA]; exact pk_rem (d := 6) (cv_e N xs 0).2 (by decide) (by decide)
  have rB : nI (cvN N xs 1) - nI (cvN N xs 1) / 60 * 60 = nI B := by rw [← eB]; exact pk_rem (d := 60) (cv_e N xs 1).2 (by decide) (by decide)
  have rC : nI (cvN N xs 2) - nI (cvN N xs 2) / 2 * 2 = nI C := by rw [← eC]; exact pk_rem (d := 2) (cv_e N xs 2).2 (by decide) (by decide)
  have ud : ∀ J, SC I J → mj_R D_X9_undo [.inr (some 0)] (mj_w J) (mj_ex (some (.inl (-100000002))) J) := fun J hJ => X9_undo_ill ((CR_sc h hJ).2.1.2.1.trans nI_0)
  have w9 : wI (9 + 0) = 1 := by decide +kernel
  have w11 : upd wI (9 + 0) (nI A) (9 + 2) = 30 := by
    rw [up_n (by decide)]
    decide +kernel
  have s1 : ∀ J, SC I J → mj_R D_X9_set [.inr (some 0), .inl (nI 0), .inl (nI A)] (mj_w J) (mj_px (fun r I1 => r = some (.inl 1) ∧ GS I1 (upd wI (9 + 0) (nI A)))) := by
    intro J hJ
    refine R_imp (X9_set_ok (CR_sc h hJ) (j := 0) (k := A) (by decide) (by show 0 ≤ A; omega) (by show A ≤ 20; omega)) ?_
    rintro r I1 ⟨g0, g1⟩
    rw [w9] at g0
    exact ⟨g0, GS_rec wI_A g1⟩
  have a1 : AK (upd wI (9 + 0) (nI A)) := AK_same wI_A (fun i h1 h2 => up_n (by omega))
  have s2 := fun J (hJ : GS J (upd wI (9 + 0) (nI A))) => G_set hJ a1 (j := 2) (k := B) (by decide) (by show 0 ≤ B; omega) (by show B ≤ 500; omega)
  rw [w11] at s2
  have a2 : AK (upd (upd wI (9 + 0) (nI A)) (9 + 2) (nI B)) := AK_same a1 (fun i h1 h2 => up_n (by omega))
  have w13 : upd (upd wI (9 + 0) (nI A)) (9 + 2) (nI B) (9 + 4) = 0 := by
    rw [up_n (by decide), up_n (by decide)]
    decide +kernel
  have s3 := fun J (hJ : GS J (upd (upd wI (9 + 0) (nI A)) (9 + 2) (nI B))) => G_set hJ a2 (j := 4) (k := C) (by decide) (by show 0 ≤ C; omega) (by show C ≤ 1; omega)
  rw [w13] at s3
  have a3 : AK (upd (upd (upd wI (9 + 0) (nI A)) (9 + 2) (nI B)) (9 + 4) (nI C)) := AK_same a2 (fun i h1 h2 => up_n (by omega))
  have o3 : ∀ i, i < 9 → upd (upd (upd wI (9 + 0) (nI A)) (9 + 2) (nI B)) (9 + 4) (nI C) i = 0 := fun i hi => by
    rw [up_n (by omega), up_n (by omega), up_n (by omega)]
    exact wI_0 (Or.inl hi)
  have d3 : D4 (upd (upd (upd wI (9 + 0) (nI A)) (9 + 2) (nI B)) (9 + 4) (nI C)) 0 := ⟨by rw [o3 1 (by decide)]; exact tn_0, o3 0 (by decide), fun j hj => absurd hj (Nat.not_lt_zero j)⟩
  have w2 := o3 2 (by decide)
  generalize upd (upd (upd wI (9 + 0) (nI A)) (9 + 2) (nI B)) (9 + 4) (nI C) = v3 at s3 a3 d3 w2 o3
  have s4 := fun J (hJ : GS J v3) => G_grant hJ a3 (ja := 200) (by decide) (by decide) (by rw [w2, tn_0]; decide)
  rw [w2] at s4
  have d4 : D4 (upd (upd v3 2 (0 + nI 200)) 3 (v3 3 + nI 200)) 0 := ⟨by rw [up_n (by decide), up_n (by decide)]; exact d3.1, by rw [up_n (by decide), up_n (by decide)]; exact d3.2.1, fun j hj => absurd hj (Nat.not_lt_zero j)⟩
  have a4 : AK (upd (upd v3 2 (0 + nI 200)) 3 (v3 3 + nI 200)) := by
    have g := AK_grant (a := nI 200) a3
    rw [w2] at g
    exact g
  refine K_ald S_L_law rfl rfl ?_
  refine K_CS S_L_law rfl rfl (by simp) (th) ?_
  rintro _ _ ⟨J1, rfl, rfl, c1⟩
  refine K_if S_L_law rfl (fun c12 => False.elim (absurd c12 (by decide))) (fun c12 => ?_)
  refine K_ald S_L_law rfl rfl ?_
  refine K_CVx S_L_law rfl rfl (by assumption) (by omega) (by simp) (ud _ c1) rfl ?_
  refine K_C S_L_law rfl ?_
  refine K_cmp S_L_law rfl (fun c21 => False.elim (c21 rfl)) (fun c21 => ?_)
  refine K_ald S_L_law rfl rfl ?_
  refine K_C S_L_law rfl ?_
  refine K_ald S_L_law rfl rfl ?_
  refine K_C S_L_law rfl ?_
  refine K_cell (k := 0) rfl ⟨hN, by decide, by simp⟩ ⟨by decide, by decide⟩ dL_law_28 ?_
  refine K_C S_L_law rfl ?_
  refine K_div S_L_law rfl (by decide) ?_
  rw [rA]
  refine K_CV S_L_law rfl rfl (by assumption) (by omega) (by simp) (s1 _ c1) ?_
  rintro _ _ ⟨J2, rfl, rfl, g1⟩
  refine K_C S_L_law rfl ?_
  refine K_cmp S_L_law rfl (fun c38 => False.elim (c38 rfl)) (fun c38 => ?_)
  refine K_ald S_L_law rfl rfl ?_
  refine K_C S_L_law rfl ?_
  refine K_ald S_L_law rfl rfl ?_
  refine K_C S_L_law rfl ?_
  refine K_cell (k := 1) rfl ⟨hN, by decide, by simp⟩ ⟨by decide, by decide⟩ dL_law_45 ?_
  refine K_C S_L_law rfl ?_
  refine K_div S_L_law rfl (by decide) ?_
  rw [rB]
  refine K_CV S_L_law rfl rfl (by assumption) (by omega) (by simp) (s2 _ g1) ?_
  rintro _ _ ⟨J3, rfl, rfl, g2⟩
  refine K_C S_L_law rfl ?_
  refine K_cmp S_L_law rfl (fun c56 => False.elim (c56 rfl)) (fun c56 => ?_)
  refine K_ald S_L_law rfl rfl ?_
  refine K_C S_L_law rfl ?_
  refine K_ald S_L_law rfl rfl ?_
  refine K_C S_L_law rfl ?_
  refine K_cell (k := 2) rfl ⟨hN, by decide, by simp⟩ ⟨by decide, by decide⟩ dL_law_63 ?_
  refine K_C S_L_law rfl ?_
  refine K_div S_L_law rfl (by decide) ?_
  rw [rC]
  refine K_CV S_L_law rfl rfl (by assumption) (by omega) (by simp) (s3 _ g2) ?_
  rintro _ _ ⟨J4, rfl, rfl, g3⟩
  refine K_if S_L_law rfl (fun c71 => False.elim (c71 rfl)) (fun c71 => ?_)
  refine K_ald S_L_law rfl rfl ?_
  refine K_C S_L_law rfl ?_
  refine K_CV S_L_law rfl rfl (by assumption) (by omega) (by simp) (s4 _ g3) ?_
  rintro _ _ ⟨J5, rfl, rfl, g4⟩
  refine K_C S_L_law rfl ?_
  refine K_cmp S_L_law rfl (fun c84 => False.elim (c84 (by decide))) (fun c84 => ?_)
  refine K_C S_L_law rfl ?_
  refine K_goto S_L_law rfl ?_
  refine K_ist S_L_law rfl rfl ?_
  refine K_C S_L_law rfl ?_
  refine K_ist S_L_law rfl rfl ?_
  exact law_loop1 hN 4 0 _ _ _ _ _ _ rfl g4 a4 d4
theorem law_start (hN : N ≤ 260) {F : mj_F} {I : mj_I} : SJ D_L_law b N xs law_p 0 [rfs, none, none, none, none, none, none, none] [] (0, F, I) (0, 0) := by
  have k9 := I_X9 (F := mj_nF F 0) (I := mj_nI I 0) (fun k => nI_s)
  refine KO_new S_L_law rfl s_0 (by decide) (by decide) (by decide) ?_
  refine K_dup S_L_law rfl ?_
  refine KO_CI (mc := 312) (ms := 10110) S_L_law rfl rfl rfl rfl (by simp) (by decide) (by decide) k9 ?_
  rintro _ _ ⟨rfl, F1, I1, rfl, -, p2⟩
  have hg : ∀ q, q < 313 → GC F1 I1 q := fun q hq => p2 q (Nat.zero_le q) hq
  refine K_cg (F' := mj_RC) (I' := I1) (fun q hq k hk hr => ((hg q hq).1 k hk hr).symm) (fun q _ => rfl) ?_
  have hC : CR I1 wI (fun _ => 0) 0 0 0 (fun _ => 0) := CR_start (fun q hq => funext fun k => (hg q hq).2 k)
  change SJ D_L_law b N xs _ _ _ _ (mj_w I1) _
  refine K_ast S_L_law rfl rfl ?_
  exact K_z (by decide) (by decide) (law_first hN hC)
end LW
