section Ms3
variable {I : mj_I}
theorem Y_sign {L a : Nat} {J : mj_I} (hL : L ≤ 40) (h4 : I 313 4 = nI L) (h : MS I J a (-1)) (ha : a ≤ L) : mj_R D_X10_sign [.inr (some 313), .inl 45] (mj_w J) (mj_px (fun r J' => r = none ∧ MS I J' (sk (I 316) L a + 1) (if tq (I 316) (sk (I 316) L a) (tk (I 316) L a) 7 = true then -1 else nI (sk (I 316) L a)) ∧ KQ J J')) := by
  have m0 := s_313
  have hb := Y_begins hL h4 h ha
  have hs := sktk_le (I 316) ha
  have hd := (dash_ok (f := I 316) (L := L) (s := sk (I 316) L a)).1
  change _ ↔ tq (I 316) (sk (I 316) L a) (tk (I 316) L a) 7 = true at hd
  obtain ⟨q, hq⟩ : ∃ q, tq (I 316) (sk (I 316) L a) (tk (I 316) L a) 7 = q := ⟨_, rfl⟩
  rw [hq] at hd ⊢
  generalize sk (I 316) L a = S at *
  refine mj_enter (by decide +kernel) (Nat.le_of_ble_eq_true rfl) ?_
  have fin : ∀ (J2 J3 : mj_I) (ok : Bool), ok = q → KQ J J2 → MS I J3 S (if ok = true then -1 else nI S) → KQ J2 J3 → mj_J D_X10_sign (mj_px (fun r J' => r = none ∧ MS I J' (S + 1) (if q = true then -1 else nI S) ∧ KQ J J')) 21 [some (.inr (some 313)), some (.inl 45)] [] (mj_w J3) (0, 0) := by
    intro J2 J3 ok hok k1 g k2
    subst hok
    refine J_ald S_X10_sign rfl rfl ?_
    refine J_dup S_X10_sign rfl ?_
    refine J_getI S_X10_sign rfl (by assumption) (by omega) ?_
    refine J_C S_X10_sign rfl ?_
    refine J_bin S_X10_sign rfl ?_
    refine J_putI S_X10_sign rfl (by assumption) (by omega) ?_
    refine J_retV S_X10_sign rfl ?_
    exact ⟨_, rfl, rfl, ⟨mb_up g.1 (by decide), by rw [mj_up_eq, up_s, g.2.1]; exact (nI_succ S).symm, by rw [mj_up_eq, up_n (by decide)]; exact g.2.2⟩, fun k hk => by rw [mj_up_eq, up_n (by omega), k2 k hk, k1 k hk]⟩
  by_cases hc : S < L ∧ I 316 S = 45
  · have hqt := hd.mp hc
    refine J_ald S_X10_sign rfl rfl ?_
    refine J_CV S_X10_sign rfl rfl (by assumption) (by omega) (by simp) (hb) ?_
    rintro _ _ ⟨J2, rfl, rfl, g1, g2, g3⟩
    have hn := Y_next hL h4 g1 (by omega)
    rw [if_pos hc.1] at hn
    have hal := Y_allows (ok := true) g1 g2
    refine J_ald S_X10_sign rfl rfl ?_
    refine J_ald S_X10_sign rfl rfl ?_
    refine J_CVx S_X10_sign rfl rfl (by assumption) (by omega) (by simp) (hn) rfl ?_
    refine J_ild S_X10_sign rfl rfl ?_
    refine J_cmp S_X10_sign rfl (fun c10 => False.elim (c10 hc.2)) (fun c10 => ?_)
    refine J_C S_X10_sign rfl ?_
    refine J_goto S_X10_sign rfl ?_
    refine J_CV S_X10_sign rfl rfl (by assumption) (by omega) (by simp) (hal) ?_
    rintro _ _ ⟨J3, rfl, rfl, q1, q2⟩
    exact fin J2 J3 true hqt.symm g3 q1 q2
  · have hqf : q = false := by
      cases q
      · rfl
      · exact absurd (hd.mpr rfl) hc
    by_cases hsl : S < L
    · refine J_ald S_X10_sign rfl rfl ?_
      refine J_CV S_X10_sign rfl rfl (by assumption) (by omega) (by simp) (hb) ?_
      rintro _ _ ⟨J2, rfl, rfl, g1, g2, g3⟩
      have hn := Y_next hL h4 g1 (by omega)
      rw [if_pos hsl] at hn
      have hal := Y_allows (ok := false) g1 g2
      refine J_ald S_X10_sign rfl rfl ?_
      refine J_ald S_X10_sign rfl rfl ?_
      refine J_CVx S_X10_sign rfl rfl (by assumption) (by omega) (by simp) (hn) rfl ?_
      refine J_ild S_X10_sign rfl rfl ?_
      refine J_cmp S_X10_sign rfl (fun c10 => ?_) (fun c10 => False.elim (hc ⟨hsl, c10⟩))
      refine J_C S_X10_sign rfl ?_
      refine J_CV S_X10_sign rfl rfl (by assumption) (by omega) (by simp) (hal) ?_
      rintro _ _ ⟨J3, rfl, rfl, q1, q2⟩
      exact fin J2 J3 false hqf.symm g3 q1 q2
    · refine J_ald S_X10_sign rfl rfl ?_
      refine J_CV S_X10_sign rfl rfl (by assumption) (by omega) (by simp) (hb) ?_
      rintro _ _ ⟨J2, rfl, rfl, g1, g2, g3⟩
      have hn := Y_next hL h4 g1 (by omega)
      rw [if_neg hsl] at hn
      have hal := Y_allows (ok := false) g1 g2
      refine J_ald S_X10_sign rfl rfl ?_
      refine J_ald S_X10_sign rfl rfl ?_
      refine J_CVx S_X10_sign rfl rfl (by assumption) (by omega) (by simp) (hn) rfl ?_
      refine J_ild S_X10_sign rfl rfl ?_
      refine J_cmp S_X10_sign rfl (fun c10 => ?_) (fun c10 => False.elim (absurd c10 (by decide)))
      refine J_C S_X10_sign rfl ?_
      refine J_CV S_X10_sign rfl rfl (by assumption) (by omega) (by simp) (hal) ?_
      rintro _ _ ⟨J3, rfl, rfl, q1, q2⟩
      exact fin J2 J3 false hqf.symm g3 q1 q2
theorem Y_table {L a : Nat} {J : mj_I} (hL : L ≤ 40) (h4 : I 313 4 = nI L) (h : MS I J a (-1)) (ha : a ≤ L) : mj_R D_X10_readsTable [.inr (some 313)] (mj_w J) (mj_px (fun r J' => r = none ∧ MS I J' (lR (I 316) L (sk (I 316) L a)) (if (tq (I 316) (sk (I 316) L a) (tk (I 316) L a) 5 || tq (I 316) (sk (I 316) L a) (tk (I 316) L a) 6) = true then -1 else nI (sk (I 316) L a)) ∧ J' 313 15 = wv (I 316) L (sk (I 316) L a) - 1 ∧ ∀ k, 14 ≤ k → k ≠ 15 → J' 313 k = J 313 k)) := by
  have m0 := s_313
  have hb := Y_word hL h4 h ha rfl
  have hs := sktk_le (I 316) ha
  have h5 := (wv_iff (f := I 316) (i := 5) hs.2.1 (by decide)).1
  have h6 := (wv_iff (f := I 316) (i := 6) hs.2.1 (by decide)).1
  change _ ↔ tq (I 316) (sk (I 316) L a) (tk (I 316) L a) 5 = true at h5
  change _ ↔ tq (I 316) (sk (I 316) L a) (tk (I 316) L a) 6 = true at h6
  rw [cW_e.2.2.2.2.2.1] at h5
  rw [cW_e.2.2.2.2.2.2] at h6
  generalize tq (I 316) (sk (I 316) L a) (tk (I 316) L a) 5 = q5 at *
  generalize tq (I 316) (sk (I 316) L a) (tk (I 316) L a) 6 = q6 at *
  generalize wv (I 316) L (sk (I 316) L a) = w at *
  generalize lR (I 316) L (sk (I 316) L a) = R at *
  generalize sk (I 316) L a = S at *
  refine mj_enter (by decide +kernel) (Nat.le_of_ble_eq_true rfl) ?_
  have fin : ∀ (J2 J3 : mj_I) (ok : Bool), ok = (q5 || q6) → KQ J J2 → MS I J3 R (if ok = true then -1 else nI S) → KQ J2 J3 → mj_J D_X10_readsTable (mj_px (fun r J' => r = none ∧ MS I J' R (if (q5 || q6) = true then -1 else nI S) ∧ J' 313 15 = w - 1 ∧ ∀ k, 14 ≤ k → k ≠ 15 → J' 313 k = J 313 k)) 24 [some (.inr (some 313)), some (.inl w)] [] (mj_w J3) (0, 0) := by
    intro J2 J3 ok hok k1 g k2
    rw [← hok]
    refine J_ald S_X10_readsTable rfl rfl ?_
    refine J_ild S_X10_readsTable rfl rfl ?_
    refine J_C S_X10_readsTable rfl ?_
    refine J_bin S_X10_readsTable rfl ?_
    refine J_putI S_X10_readsTable rfl (by assumption) (by omega) ?_
    refine J_retV S_X10_readsTable rfl ?_
    exact ⟨_, rfl, rfl, ms_u g (by decide), by rw [mj_up_eq, up_s], fun k hk hk2 => by rw [mj_up_eq, up_n hk2, k2 k hk, k1 k hk]⟩
  by_cases c1 : w = 1
  · have e5 := h5.mp c1
    refine J_ald S_X10_readsTable rfl rfl ?_
    refine J_CV S_X10_readsTable rfl rfl (by assumption) (by omega) (by simp) (hb) ?_
    rintro _ _ ⟨J2, rfl, rfl, g1, g2, g3⟩
    have hal := Y_allows (ok := true) g1 g2
    refine J_ist S_X10_readsTable rfl rfl ?_
    refine J_ald S_X10_readsTable rfl rfl ?_
    refine J_ild S_X10_readsTable rfl rfl ?_
    refine J_C S_X10_readsTable rfl ?_
    refine J_cmp S_X10_readsTable rfl (fun c8 => ?_) (fun c8 => False.elim (c8 c1))
    refine J_C S_X10_readsTable rfl ?_
    refine J_goto S_X10_readsTable rfl ?_
    refine J_CV S_X10_readsTable rfl rfl (by assumption) (by omega) (by simp) (hal) ?_
    rintro _ _ ⟨J3, rfl, rfl, q1, q2⟩
    exact fin J2 J3 true (by rw [e5]; rfl) g3 q1 q2
  · have e5 : q5 = false := by
      cases q5
      · rfl
      · exact absurd (h5.mpr rfl) c1
    by_cases c2 : w = 2
    · have e6 := h6.mp c2
      refine J_ald S_X10_readsTable rfl rfl ?_
      refine J_CV S_X10_readsTable rfl rfl (by assumption) (by omega) (by simp) (hb) ?_
      rintro _ _ ⟨J2, rfl, rfl, g1, g2, g3⟩
      have hal := Y_allows (ok := true) g1 g2
      refine J_ist S_X10_readsTable rfl rfl ?_
      refine J_ald S_X10_readsTable rfl rfl ?_
      refine J_ild S_X10_readsTable rfl rfl ?_
      refine J_C S_X10_readsTable rfl ?_
      refine J_cmp S_X10_readsTable rfl (fun c8 => False.elim (c1 c8)) (fun c8 => ?_)
      refine J_ild S_X10_readsTable rfl rfl ?_
      refine J_C S_X10_readsTable rfl ?_
      refine J_cmp S_X10_readsTable rfl (fun c13 => False.elim (c13 c2)) (fun c13 => ?_)
      refine J_C S_X10_readsTable rfl ?_
      refine J_goto S_X10_readsTable rfl ?_
      refine J_CV S_X10_readsTable rfl rfl (by assumption) (by omega) (by simp) (hal) ?_
      rintro _ _ ⟨J3, rfl, rfl, q1, q2⟩
      exact fin J2 J3 true (by rw [e5, e6]; rfl) g3 q1 q2
    · have e6 : q6 = false := by
        cases q6
        · rfl
        · exact absurd (h6.mpr rfl) c2
      refine J_ald S_X10_readsTable rfl rfl ?_
      refine J_CV S_X10_readsTable rfl rfl (by assumption) (by omega) (by simp) (hb) ?_
      rintro _ _ ⟨J2, rfl, rfl, g1, g2, g3⟩
      have hal := Y_allows (ok := false) g1 g2
      refine J_ist S_X10_readsTable rfl rfl ?_
      refine J_ald S_X10_readsTable rfl rfl ?_
      refine J_ild S_X10_readsTable rfl rfl ?_
      refine J_C S_X10_readsTable rfl ?_
      refine J_cmp S_X10_readsTable rfl (fun c8 => False.elim (c1 c8)) (fun c8 => ?_)
      refine J_ild S_X10_readsTable rfl rfl ?_
      refine J_C S_X10_readsTable rfl ?_
      refine J_cmp S_X10_readsTable rfl (fun c13 => ?_) (fun c13 => False.elim (c2 c13))
      refine J_C S_X10_readsTable rfl ?_
      refine J_CV S_X10_readsTable rfl rfl (by assumption) (by omega) (by simp) (hal) ?_
      rintro _ _ ⟨J3, rfl, rfl, q1, q2⟩
      exact fin J2 J3 false (by rw [e5, e6]; rfl) g3 q1 q2
theorem C_X10_kindOf {w : Int32} : mj_R D_X10_kindOf [.inr (some 313), .inl w] (mj_w I) (mj_ex (some (.inl (kW w))) I) := by
  refine mj_enter (by decide +kernel) (Nat.le_of_ble_eq_true rfl) ?_
  unfold kW
  refine J_ild S_X10_kindOf rfl rfl ?_
  refine J_sw S_X10_kindOf rfl ⟨fun w0 => ?_, fun n0 => ⟨fun w1 => ?_, fun n1 => ⟨fun w2 => ?_, fun n2 => ⟨fun w3 => ?_, fun n3 => ⟨fun w4 => ?_, fun n4 => ?_⟩⟩⟩⟩⟩
  · refine J_C S_X10_kindOf rfl ?_
    refine J_retI S_X10_kindOf rfl ?_
    rw [if_pos w0]; exact ⟨rfl, rfl⟩
  · refine J_C S_X10_kindOf rfl ?_
    refine J_retI S_X10_kindOf rfl ?_
    rw [if_neg n0, if_pos w1]; exact ⟨rfl, rfl⟩
  · refine J_C S_X10_kindOf rfl ?_
    refine J_retI S_X10_kindOf rfl ?_
    rw [if_neg (by rw [w2]; decide), if_neg (by rw [w2]; decide), if_pos w2]; exact ⟨rfl, rfl⟩
  · refine J_C S_X10_kindOf rfl ?_
    refine J_retI S_X10_kindOf rfl ?_
    rw [if_neg n0, if_neg n1, if_neg n2, if_pos w3]; exact ⟨rfl, rfl⟩
  · refine J_C S_X10_kindOf rfl ?_
    refine J_retI S_X10_kindOf rfl ?_
    rw [if_neg n0, if_neg n1, if_neg n2, if_neg n3, if_pos w4]; exact ⟨rfl, rfl⟩
  · refine J_C S_X10_kindOf rfl ?_
    refine J_retI S_X10_kindOf rfl ?_
    rw [if_neg n0, if_neg n1, if_neg n2, if_neg n3, if_neg n4]; exact ⟨rfl, rfl⟩
abbrev RT (I : mj_I) (L : Nat) : Option mj_V → mj_M → Prop := mj_px (fun r I' => r = none ∧ MB I I' ∧ RDS (I 316) L (I' 313 13) (I' 313 14) (I' 313 15) (I' 313 16) (I' 313 17))
/-! from each place of reads to its end -/
theorem f121 {L s : Nat} {J : mj_I} (hs : s ≤ 40) (h : MB I J) (hf : J 313 13 = nI s) (H : RDS (I 316) L (nI s) (J 313 14) (J 313 15) (J 313 16) (J 313 17)) : mj_J D_X10_reads (RT I L) 121 [some (.inr (some 313))] [] (mj_w J) (0, 0) := by
  have m0 := s_313
  refine J_ald S_X10_reads rfl rfl ?_
  refine J_getI S_X10_reads rfl (by assumption) (by omega) ?_
  rw [hf]
  refine J_if S_X10_reads rfl (fun c125 => ?_) (fun c125 => False.elim (c125 (nI_pos' (by omega))))
  refine J_retV S_X10_reads rfl ?_
  exact ⟨J, rfl, rfl, h, by rw [hf]; exact H⟩
theorem f102 {L s : Nat} {J : mj_I} (hs : s ≤ 40) (h : MB I J) (hf : J 313 13 = nI s) (H : ∀ y, RDS (I 316) L (nI s) (J 313 14) (J 313 15) (J 313 16) y) : mj_J D_X10_reads (RT I L) 102 [some (.inr (some 313))] [] (mj_w J) (0, 0) := by
  have m0 := s_313
  refine J_ald S_X10_reads rfl rfl ?_
  refine J_ald S_X10_reads rfl rfl ?_
  refine J_getI S_X10_reads rfl (by assumption) (by omega) ?_
  rw [hf]
  refine J_if S_X10_reads rfl (fun c107 => ?_) (fun c107 => False.elim (c107 (nI_pos' (by omega))))
  refine J_C S_X10_reads rfl ?_
  refine J_putI S_X10_reads rfl (by assumption) (by omega) ?_
  exact f121 hs (mb_up h (by decide)) (by rw [mj_up_eq, up_n (by decide)]; exact hf) (by rw [mj_up_eq, up_s, up_n (by decide), up_n (by decide), up_n (by decide)]; exact H _)
theorem f81 {L s : Nat} {J : mj_I} (hs : s ≤ 40) (h : MB I J) (hf : J 313 13 = nI s) (H : ∀ y, RDS (I 316) L (nI s) (J 313 14) (J 313 15) (J 313 16) y) : mj_J D_X10_reads (RT I L) 81 [some (.inr (some 313))] [] (mj_w J) (0, 0) := by
  have m0 := s_313
  refine J_ald S_X10_reads rfl rfl ?_
  refine J_getI S_X10_reads rfl (by assumption) (by omega) ?_
  rw [hf]
  refine J_if S_X10_reads rfl (fun c85 => ?_) (fun c85 => False.elim (c85 (nI_pos' (by omega))))
  exact f102 hs h hf H
theorem f62 {L s : Nat} {J : mj_I} (hs : s ≤ 40) (h : MB I J) (hf : J 313 13 = nI s) (H : ∀ x y, RDS (I 316) L (nI s) (J 313 14) (J 313 15) x y) : mj_J D_X10_reads (RT I L) 62 [some (.inr (some 313))] [] (mj_w J) (0, 0) := by
  have m0 := s_313
  refine J_ald S_X10_reads rfl rfl ?_
  refine J_ald S_X10_reads rfl rfl ?_
  refine J_getI S_X10_reads rfl (by assumption) (by omega) ?_
  rw [hf]
  refine J_if S_X10_reads rfl (fun c67 => ?_) (fun c67 => False.elim (c67 (nI_pos' (by omega))))
  refine J_C S_X10_reads rfl ?_
  refine J_putI S_X10_reads rfl (by assumption) (by omega) ?_
  exact f81 hs (mb_up h (by decide)) (by rw [mj_up_eq, up_n (by decide)]; exact hf) (by rw [mj_up_eq, up_s, up_n (by decide), up_n (by decide)]; exact H _)
theorem f43 {L s : Nat} {J : mj_I} (hs : s ≤ 40) (h : MB I J) (hf : J 313 13 = nI s) (H : ∀ x y, RDS (I 316) L (nI s) (J 313 14) (J 313 15) x y) : mj_J D_X10_reads (RT I L) 43 [some (.inr (some 313))] [] (mj_w J) (0, 0) := by
  have m0 := s_313
  refine J_ald S_X10_reads rfl rfl ?_
  refine J_getI S_X10_reads rfl (by assumption) (by omega) ?_
  rw [hf]
  refine J_if S_X10_reads rfl (fun c47 => ?_) (fun c47 => False.elim (c47 (nI_pos' (by omega))))
  exact f62 hs h hf H
theorem g121 {L p : Nat} {J : mj_I} (hL : L ≤ 40) (h4 : I 313 4 = nI L) (h : MS I J p (-1)) (hp : p ≤ L) (H : ∀ e, RDE (I 316) L p e → RDS (I 316) L e (J 313 14) (J 313 15) (J 313 16) (J 313 17)) : mj_J D_X10_reads (RT I L) 121 [some (.inr (some 313))] [] (mj_w J) (0, 0) := by
  have m0 := s_313
  have hb := Y_begins hL h4 h hp
  have hs := sktk_le (I 316) hp
  unfold RDE at H
  generalize sk (I 316) L p = S at *
  by_cases c : S < L
  · have H := H (nI S) (by rw [if_pos c])
    refine J_ald S_X10_reads rfl rfl ?_
    refine J_getI S_X10_reads rfl (by assumption) (by omega) ?_
    rw [h.2.2]
    refine J_if S_X10_reads rfl (fun c125 => False.elim (absurd c125 (by decide))) (fun c125 => ?_)
    refine J_ald S_X10_reads rfl rfl ?_
    refine J_CV S_X10_reads rfl rfl (by assumption) (by omega) (by simp) (hb) ?_
    rintro _ _ ⟨J2, rfl, rfl, g1, g2, g3⟩
    have hal := Y_allows (ok := false) g1 g2
    refine J_ald S_X10_reads rfl rfl ?_
    refine J_ald S_X10_reads rfl rfl ?_
    refine J_getI S_X10_reads rfl (by assumption) (by omega) ?_
    refine J_ald S_X10_reads rfl rfl ?_
    refine J_getI S_X10_reads rfl (by assumption) (by omega) ?_
    rw [g1.2.1, g1.1.2 4 (by decide), h4]
    refine J_cmp S_X10_reads rfl (fun c141 => ?_) (fun c141 => False.elim ((show S ≠ L by omega) ((nI_eq (by omega) (by omega)).mp c141)))
    refine J_C S_X10_reads rfl ?_
    refine J_CV S_X10_reads rfl rfl (by assumption) (by omega) (by simp) (hal) ?_
    rintro _ _ ⟨J3, rfl, rfl, q1, q2⟩
    refine J_retV S_X10_reads rfl ?_
    refine ⟨J3, rfl, rfl, q1.1, ?_⟩
    rw [q1.2.2, if_neg (by decide), q2 14 (by decide), q2 15 (by decide), q2 16 (by decide), q2 17 (by decide), g3 14 (by decide), g3 15 (by decide), g3 16 (by decide), g3 17 (by decide)]
    exact H
  · have H := H (-1) (by rw [if_neg c])
    refine J_ald S_X10_reads rfl rfl ?_
    refine J_getI S_X10_reads rfl (by assumption) (by omega) ?_
    rw [h.2.2]
    refine J_if S_X10_reads rfl (fun c125 => False.elim (absurd c125 (by decide))) (fun c125 => ?_)
    refine J_ald S_X10_reads rfl rfl ?_
    refine J_CV S_X10_reads rfl rfl (by assumption) (by omega) (by simp) (hb) ?_
    rintro _ _ ⟨J2, rfl, rfl, g1, g2, g3⟩
    have hal := Y_allows (ok := true) g1 g2
    refine J_ald S_X10_reads rfl rfl ?_
    refine J_ald S_X10_reads rfl rfl ?_
    refine J_getI S_X10_reads rfl (by assumption) (by omega) ?_
    refine J_ald S_X10_reads rfl rfl ?_
    refine J_getI S_X10_reads rfl (by assumption) (by omega) ?_
    rw [g1.2.1, g1.1.2 4 (by decide), h4]
    refine J_cmp S_X10_reads rfl (fun c141 => False.elim (c141 (congrArg nI (show S = L by omega)))) (fun c141 => ?_)
    refine J_C S_X10_reads rfl ?_
    refine J_goto S_X10_reads rfl ?_
    refine J_CV S_X10_reads rfl rfl (by assumption) (by omega) (by simp) (hal) ?_
    rintro _ _ ⟨J3, rfl, rfl, q1, q2⟩
    refine J_retV S_X10_reads rfl ?_
    refine ⟨J3, rfl, rfl, q1.1, ?_⟩
    rw [q1.2.2, if_pos rfl, q2 14 (by decide), q2 15 (by decide), q2 16 (by decide), q2 17 (by decide), g3 14 (by decide), g3 15 (by decide), g3 16 (by decide), g3 17 (by decide)]
    exact H
theorem g102 {L p : Nat} {J : mj_I} (hL : L ≤ 40) (h4 : I 313 4 = nI L) (h : MS I J p (-1)) (hp : p ≤ L) (H : ∀ e y, RDM (I 316) L p e y → RDS (I 316) L e (J 313 14) (J 313 15) (J 313 16) y) : mj_J D_X10_reads (RT I L) 102 [some (.inr (some 313))] [] (mj_w J) (0, 0) := by
  have m0 := s_313
  have hb := Y_number hL h4 h hp rfl
  have hs := sktk_le (I 316) hp
  have hno := num_ok (I 316) hs.2.1
  unfold RDM at H
  change okd (I 316) L (sk (I 316) L p) = nmOk (I 316) L (sk (I 316) L p) (tk (I 316) L p) ∧ (_ → dR (I 316) L (sk (I 316) L p) = tk (I 316) L p ∧ _ = nmV (I 316) (sk (I 316) L p) (tk (I 316) L p)) at hno
  cases c : okd (I 316) L (sk (I 316) L p)
  · rw [c] at hno hb
    have H := fun y => H (nI (sk (I 316) L p)) y (by rw [← hno.1, if_neg (by decide)])
    refine J_ald S_X10_reads rfl rfl ?_
    refine J_ald S_X10_reads rfl rfl ?_
    refine J_getI S_X10_reads rfl (by assumption) (by omega) ?_
    rw [h.2.2]
    refine J_if S_X10_reads rfl (fun c107 => False.elim (absurd c107 (by decide))) (fun c107 => ?_)
    refine J_ald S_X10_reads rfl rfl ?_
    refine J_CV S_X10_reads rfl rfl (by assumption) (by omega) (by simp) (hb) ?_
    rintro _ _ ⟨J2, rfl, rfl, g1, g2⟩
    refine J_goto S_X10_reads rfl ?_
    refine J_putI S_X10_reads rfl (by assumption) (by omega) ?_
    exact f121 (show sk (I 316) L p ≤ 40 by omega) (mb_up g1.1 (by decide)) (by rw [mj_up_eq, up_n (by decide), g1.2.2, if_neg (by decide)]) (by rw [mj_up_eq, up_s, up_n (by decide), up_n (by decide), up_n (by decide), g2 14 (by decide), g2 15 (by decide), g2 16 (by decide)]; exact H _)
  · obtain ⟨e1, e2⟩ := hno.2 c
    rw [c] at hno hb
    have H := fun e g => H e (nmV (I 316) (sk (I 316) L p) (tk (I 316) L p)) (by rw [← hno.1, if_pos rfl]; exact ⟨rfl, g⟩)
    rw [e1] at hb e2
    rw [e2] at hb
    refine J_ald S_X10_reads rfl rfl ?_
    refine J_ald S_X10_reads rfl rfl ?_
    refine J_getI S_X10_reads rfl (by assumption) (by omega) ?_
    rw [h.2.2]
    refine J_if S_X10_reads rfl (fun c107 => False.elim (absurd c107 (by decide))) (fun c107 => ?_)
    refine J_ald S_X10_reads rfl rfl ?_
    refine J_CV S_X10_reads rfl rfl (by assumption) (by omega) (by simp) (hb) ?_
    rintro _ _ ⟨J2, rfl, rfl, g1, g2⟩
    refine J_goto S_X10_reads rfl ?_
    refine J_putI S_X10_reads rfl (by assumption) (by omega) ?_
    exact g121 hL h4 (ms_u g1 (by decide)) hs.2.2 (fun e he => by rw [mj_up_eq, up_s, up_n (by decide), up_n (by decide), up_n (by decide), g2 14 (by decide), g2 15 (by decide), g2 16 (by decide)]; exact H e he)
theorem g81 {L p k : Nat} {J : mj_I} (hL : L ≤ 40) (h4 : I 313 4 = nI L) (h : MS I J p (-1)) (hp : p ≤ L) (hk : J 313 14 = nI k) (hk4 : k ≤ 4) (H : ∀ e y, RDD (I 316) L k p e y → RDS (I 316) L e (J 313 14) (J 313 15) (J 313 16) y) : mj_J D_X10_reads (RT I L) 81 [some (.inr (some 313))] [] (mj_w J) (0, 0) := by
  have m0 := s_313
  have hb := Y_sign hL h4 h hp
  have hs := sktk_le (I 316) hp
  have hd := dash_ok (f := I 316) (L := L) (s := sk (I 316) L p)
  change (_ ↔ tq (I 316) (sk (I 316) L p) (tk (I 316) L p) 7 = true) ∧ (_ → tk (I 316) L p = sk (I 316) L p + 1) at hd
  unfold RDD at H
  by_cases c4 : k = 4
  · simp only [if_pos c4] at H
    refine J_ald S_X10_reads rfl rfl ?_
    refine J_getI S_X10_reads rfl (by assumption) (by omega) ?_
    rw [h.2.2]
    refine J_if S_X10_reads rfl (fun c85 => False.elim (absurd c85 (by decide))) (fun c85 => ?_)
    refine J_ald S_X10_reads rfl rfl ?_
    refine J_getI S_X10_reads rfl (by assumption) (by omega) ?_
    refine J_C S_X10_reads rfl ?_
    rw [hk, c4]
    refine J_cmp S_X10_reads rfl (fun c93 => ?_) (fun c93 => False.elim (c93 rfl))
    exact g102 hL h4 h hp H
  · simp only [if_neg c4] at H
    have n4 : ¬ nI k = 4 := fun c => c4 ((nI_eq (b := 4) (by omega) (by decide)).mp c)
    cases c : tq (I 316) (sk (I 316) L p) (tk (I 316) L p) 7
    · rw [c] at hb
      have H := fun y => H (nI (sk (I 316) L p)) y (by rw [c, if_neg (by decide)])
      refine J_ald S_X10_reads rfl rfl ?_
      refine J_getI S_X10_reads rfl (by assumption) (by omega) ?_
      rw [h.2.2]
      refine J_if S_X10_reads rfl (fun c85 => False.elim (absurd c85 (by decide))) (fun c85 => ?_)
      refine J_ald S_X10_reads rfl rfl ?_
      refine J_getI S_X10_reads rfl (by assumption) (by omega) ?_
      refine J_C S_X10_reads rfl ?_
      rw [hk]
      refine J_cmp S_X10_reads rfl (fun c93 => False.elim (n4 c93)) (fun c93 => ?_)
      refine J_ald S_X10_reads rfl rfl ?_
      refine J_C S_X10_reads rfl ?_
      refine J_CV S_X10_reads rfl rfl (by assumption) (by omega) (by simp) (hb) ?_
      rintro _ _ ⟨J2, rfl, rfl, g1, g2⟩
      exact f102 (show sk (I 316) L p ≤ 40 by omega) g1.1 (by rw [g1.2.2, if_neg (by decide)]) (fun y => by rw [g2 14 (by decide), g2 15 (by decide), g2 16 (by decide)]; exact H y)
    · have ht := hd.2 (hd.1.mpr c)
      rw [c, ← ht] at hb
      have H := fun e y g => H e y (by rw [c, if_pos rfl]; exact g)
      refine J_ald S_X10_reads rfl rfl ?_
      refine J_getI S_X10_reads rfl (by assumption) (by omega) ?_
      rw [h.2.2]
      refine J_if S_X10_reads rfl (fun c85 => False.elim (absurd c85 (by decide))) (fun c85 => ?_)
      refine J_ald S_X10_reads rfl rfl ?_
      refine J_getI S_X10_reads rfl (by assumption) (by omega) ?_
      refine J_C S_X10_reads rfl ?_
      rw [hk]
      refine J_cmp S_X10_reads rfl (fun c93 => False.elim (n4 c93)) (fun c93 => ?_)
      refine J_ald S_X10_reads rfl rfl ?_
      refine J_C S_X10_reads rfl ?_
      refine J_CV S_X10_reads rfl rfl (by assumption) (by omega) (by simp) (hb) ?_
      rintro _ _ ⟨J2, rfl, rfl, g1, g2⟩
      exact g102 hL h4 g1 hs.2.2 (fun e y g => by rw [g2 14 (by decide), g2 15 (by decide), g2 16 (by decide)]; exact H e y g)
theorem g62 {L p k : Nat} {J : mj_I} (hL : L ≤ 40) (h4 : I 313 4 = nI L) (h : MS I J p (-1)) (hp : p ≤ L) (hk : J 313 14 = nI k) (hk4 : k ≤ 4) (H : ∀ e x y, RDN (I 316) L k p e x y → RDS (I 316) L e (J 313 14) (J 313 15) x y) : mj_J D_X10_reads (RT I L) 62 [some (.inr (some 313))] [] (mj_w J) (0, 0) := by
  have m0 := s_313
  have hb := Y_number hL h4 h hp rfl
  have hs := sktk_le (I 316) hp
  have hno := num_ok (I 316) hs.2.1
  unfold RDN at H
  change okd (I 316) L (sk (I 316) L p) = nmOk (I 316) L (sk (I 316) L p) (tk (I 316) L p) ∧ (_ → dR (I 316) L (sk (I 316) L p) = tk (I 316) L p ∧ _ = nmV (I 316) (sk (I 316) L p) (tk (I 316) L p)) at hno
  cases c : okd (I 316) L (sk (I 316) L p)
  · rw [c] at hno hb
    have H := fun x y => H (nI (sk (I 316) L p)) x y (by rw [← hno.1, if_neg (by decide)])
    refine J_ald S_X10_reads rfl rfl ?_
    refine J_ald S_X10_reads rfl rfl ?_
    refine J_getI S_X10_reads rfl (by assumption) (by omega) ?_
    rw [h.2.2]
    refine J_if S_X10_reads rfl (fun c67 => False.elim (absurd c67 (by decide))) (fun c67 => ?_)
    refine J_ald S_X10_reads rfl rfl ?_
    refine J_CV S_X10_reads rfl rfl (by assumption) (by omega) (by simp) (hb) ?_
    rintro _ _ ⟨J2, rfl, rfl, g1, g2⟩
    refine J_goto S_X10_reads rfl ?_
    refine J_putI S_X10_reads rfl (by assumption) (by omega) ?_
    exact f81 (show sk (I 316) L p ≤ 40 by omega) (mb_up g1.1 (by decide)) (by rw [mj_up_eq, up_n (by decide), g1.2.2, if_neg (by decide)]) (fun y => by rw [mj_up_eq, up_s, up_n (by decide), up_n (by decide), g2 14 (by decide), g2 15 (by decide)]; exact H _ y)
  · obtain ⟨e1, e2⟩ := hno.2 c
    rw [c] at hno hb
    have H := fun e y g => H e (nmV (I 316) (sk (I 316) L p) (tk (I 316) L p)) y (by rw [← hno.1, if_pos rfl]; exact ⟨rfl, g⟩)
    rw [e1] at hb e2
    rw [e2] at hb
    refine J_ald S_X10_reads rfl rfl ?_
    refine J_ald S_X10_reads rfl rfl ?_
    refine J_getI S_X10_reads rfl (by assumption) (by omega) ?_
    rw [h.2.2]
    refine J_if S_X10_reads rfl (fun c67 => False.elim (absurd c67 (by decide))) (fun c67 => ?_)
    refine J_ald S_X10_reads rfl rfl ?_
    refine J_CV S_X10_reads rfl rfl (by assumption) (by omega) (by simp) (hb) ?_
    rintro _ _ ⟨J2, rfl, rfl, g1, g2⟩
    refine J_goto S_X10_reads rfl ?_
    refine J_putI S_X10_reads rfl (by assumption) (by omega) ?_
    exact g81 hL h4 (ms_u g1 (by decide)) hs.2.2 (by rw [mj_up_eq, up_n (by decide), g2 14 (by decide)]; exact hk) hk4 (fun e y he => by rw [mj_up_eq, up_s, up_n (by decide), up_n (by decide), g2 14 (by decide), g2 15 (by decide)]; exact H e y he)
theorem g43 {L p k : Nat} {J : mj_I} (hL : L ≤ 40) (h4 : I 313 4 = nI L) (h : MS I J p (-1)) (hp : p ≤ L) (hk : J 313 14 = nI k) (hk4 : k ≤ 4) (h15 : J 313 15 = 0) (H : ∀ e a x y, RDT (I 316) L k p e a x y → RDS (I 316) L e (J 313 14) a x y) : mj_J D_X10_reads (RT I L) 43 [some (.inr (some 313))] [] (mj_w J) (0, 0) := by
  have m0 := s_313
  have hs := sktk_le (I 316) hp
  unfold RDT at H
  by_cases c3 : k < 3
  · simp only [if_pos c3] at H
    have hb := Y_table hL h4 h hp
    have h5 := wv_iff (f := I 316) (i := 5) hs.2.1 (by decide)
    have h6 := wv_iff (f := I 316) (i := 6) hs.2.1 (by decide)
    change (_ ↔ tq (I 316) (sk (I 316) L p) (tk (I 316) L p) 5 = true) ∧ (tq (I 316) (sk (I 316) L p) (tk (I 316) L p) 5 = true → lR (I 316) L (sk (I 316) L p) = tk (I 316) L p) at h5
    change (_ ↔ tq (I 316) (sk (I 316) L p) (tk (I 316) L p) 6 = true) ∧ (tq (I 316) (sk (I 316) L p) (tk (I 316) L p) 6 = true → lR (I 316) L (sk (I 316) L p) = tk (I 316) L p) at h6
    rw [cW_e.2.2.2.2.2.1] at h5
    rw [cW_e.2.2.2.2.2.2] at h6
    cases c : (tq (I 316) (sk (I 316) L p) (tk (I 316) L p) 5 || tq (I 316) (sk (I 316) L p) (tk (I 316) L p) 6)
    · rw [c] at hb
      have H := fun a x y => H (nI (sk (I 316) L p)) a x y (by rw [c, if_neg (by decide)])
      refine J_ald S_X10_reads rfl rfl ?_
      refine J_getI S_X10_reads rfl (by assumption) (by omega) ?_
      rw [h.2.2]
      refine J_if S_X10_reads rfl (fun c47 => False.elim (absurd c47 (by decide))) (fun c47 => ?_)
      refine J_ald S_X10_reads rfl rfl ?_
      refine J_getI S_X10_reads rfl (by assumption) (by omega) ?_
      refine J_C S_X10_reads rfl ?_
      rw [hk]
      refine J_cmp S_X10_reads rfl (fun c55 => False.elim (nI_ge c3 (by omega) c55)) (fun c55 => ?_)
      refine J_ald S_X10_reads rfl rfl ?_
      refine J_CV S_X10_reads rfl rfl (by assumption) (by omega) (by simp) (hb) ?_
      rintro _ _ ⟨J2, rfl, rfl, g1, g2, g3⟩
      exact f62 (show sk (I 316) L p ≤ 40 by omega) g1.1 (by rw [g1.2.2, if_neg (by decide)]) (fun x y => by rw [g3 14 (by decide) (by decide)]; exact H _ x y)
    · rw [c] at hb
      have ht : lR (I 316) L (sk (I 316) L p) = tk (I 316) L p := by
        rw [Bool.or_eq_true] at c
        rcases c with c | c
        · exact h5.2 c
        · exact h6.2 c
      have hw : wv (I 316) L (sk (I 316) L p) - 1 = if tq (I 316) (sk (I 316) L p) (tk (I 316) L p) 5 = true then 0 else 1 := by
        by_cases c5 : tq (I 316) (sk (I 316) L p) (tk (I 316) L p) 5 = true
        · rw [if_pos c5, h5.1.mpr c5]; rfl
        · rw [if_neg c5, h6.1.mpr (by
            rw [Bool.or_eq_true] at c
            exact c.resolve_left c5)]; rfl
      have H := fun e x y g => H e (if tq (I 316) (sk (I 316) L p) (tk (I 316) L p) 5 = true then 0 else 1) x y (by rw [c, if_pos rfl]; exact ⟨rfl, g⟩)
      rw [ht, hw] at hb
      refine J_ald S_X10_reads rfl rfl ?_
      refine J_getI S_X10_reads rfl (by assumption) (by omega) ?_
      rw [h.2.2]
      refine J_if S_X10_reads rfl (fun c47 => False.elim (absurd c47 (by decide))) (fun c47 => ?_)
      refine J_ald S_X10_reads rfl rfl ?_
      refine J_getI S_X10_reads rfl (by assumption) (by omega) ?_
      refine J_C S_X10_reads rfl ?_
      rw [hk]
      refine J_cmp S_X10_reads rfl (fun c55 => False.elim (nI_ge c3 (by omega) c55)) (fun c55 => ?_)
      refine J_ald S_X10_reads rfl rfl ?_
      refine J_CV S_X10_reads rfl rfl (by assumption) (by omega) (by simp) (hb) ?_
      rintro _ _ ⟨J2, rfl, rfl, g1, g2, g3⟩
      exact g62 hL h4 g1 hs.2.2 (by rw [g3 14 (by decide) (by decide)]; exact hk) hk4 (fun e x y g => by rw [g3 14 (by decide) (by decide), g2]; exact H e x y g)
  · simp only [if_neg c3] at H
    refine J_ald S_X10_reads rfl rfl ?_
    refine J_getI S_X10_reads rfl (by assumption) (by omega) ?_
    rw [h.2.2]
    refine J_if S_X10_reads rfl (fun c47 => False.elim (absurd c47 (by decide))) (fun c47 => ?_)
    refine J_ald S_X10_reads rfl rfl ?_
    refine J_getI S_X10_reads rfl (by assumption) (by omega) ?_
    refine J_C S_X10_reads rfl ?_
    rw [hk]
    refine J_cmp S_X10_reads rfl (fun c55 => ?_) (fun c55 => False.elim (c55 (nI_le (a := 3) (by omega) (by omega))))
    exact g62 hL h4 h hp hk hk4 (fun e x y g => by rw [h15]; exact H e 0 x y ⟨rfl, g⟩)
theorem C_X10_reads {L : Nat} (hL : L ≤ 40) (h4 : I 313 4 = nI L) : mj_R D_X10_reads [.inr (some 313)] (mj_w I) (RT I L) := by
  have m0 := s_313
  have h0 : MS I (mj_up (mj_up (mj_up I 313 11 0) 313 13 (-1)) 313 15 0) 0 (-1) := ⟨mb_up (mb_up (mb_up mb_rf (by decide)) (by decide)) (by decide), by rw [mj_up_eq, up_n (by decide), mj_up_eq, up_n (by decide), mj_up_eq, up_s]; exact nI_0.symm, by rw [mj_up_eq, up_n (by decide), mj_up_eq, up_s]⟩
  have hw := Y_word hL h4 h0 (Nat.zero_le L) rfl
  have hs := sktk_le (I 316) (Nat.zero_le L)
  have hkw := kW_ok (f := I 316) hs.2.1
  have hkr := kd_run (f := I 316) hs.2.1
  change _ = if kdN (I 316) (sk (I 316) L 0) (tk (I 316) L 0) = 5 then -1 else nI (kdN (I 316) (sk (I 316) L 0) (tk (I 316) L 0)) at hkw
  change ¬ kdN (I 316) (sk (I 316) L 0) (tk (I 316) L 0) = 5 → lR (I 316) L (sk (I 316) L 0) = tk (I 316) L 0 at hkr
  have hk := kdR_le (I 316) (sk (I 316) L 0) (tk (I 316) L 0) 5 0
  have hN5 : kdN (I 316) (sk (I 316) L 0) (tk (I 316) L 0) ≤ 5 := by unfold kdN; omega
  have HR : ∀ e k a x y, RDS (I 316) L e k a x y ↔ (if kdN (I 316) (sk (I 316) L 0) (tk (I 316) L 0) = 5 then e = nI (sk (I 316) L 0) else k = nI (kdN (I 316) (sk (I 316) L 0) (tk (I 316) L 0)) ∧ RDT (I 316) L (kdN (I 316) (sk (I 316) L 0) (tk (I 316) L 0)) (tk (I 316) L 0) e a x y) := fun _ _ _ _ _ => Iff.rfl
  generalize kdN (I 316) (sk (I 316) L 0) (tk (I 316) L 0) = N at *
  refine mj_enter (by decide +kernel) (Nat.le_of_ble_eq_true rfl) ?_
  by_cases h5 : N = 5
  · simp only [if_pos h5] at HR
    rw [if_pos h5] at hkw
    refine J_ald S_X10_reads rfl rfl ?_
    refine J_C S_X10_reads rfl ?_
    refine J_putI S_X10_reads rfl (by assumption) (by omega) ?_
    refine J_ald S_X10_reads rfl rfl ?_
    refine J_C S_X10_reads rfl ?_
    refine J_putI S_X10_reads rfl (by assumption) (by omega) ?_
    refine J_ald S_X10_reads rfl rfl ?_
    refine J_C S_X10_reads rfl ?_
    refine J_putI S_X10_reads rfl (by assumption) (by omega) ?_
    refine J_ald S_X10_reads rfl rfl ?_
    refine J_ald S_X10_reads rfl rfl ?_
    refine J_ald S_X10_reads rfl rfl ?_
    refine J_CV S_X10_reads rfl rfl (by assumption) (by omega) (by simp) (hw) ?_
    rintro _ _ ⟨J1, rfl, rfl, g1, g2, g3⟩
    have hal := Y_allows (ok := false) (ms_u (k := 14) (x := -1) g1 (by decide)) (by rw [mj_up_eq, up_n (by decide)]; exact g2)
    refine J_CVx S_X10_reads rfl rfl (by assumption) (by omega) (by simp) (C_X10_kindOf) rfl ?_
    rw [hkw]
    refine J_putI S_X10_reads rfl (by assumption) (by omega) ?_
    refine J_ald S_X10_reads rfl rfl ?_
    refine J_ald S_X10_reads rfl rfl ?_
    refine J_getI S_X10_reads rfl (by assumption) (by omega) ?_
    rw [mj_up_eq, up_s]
    refine J_if S_X10_reads rfl (fun c32 => ?_) (fun c32 => False.elim (c32 (by decide)))
    refine J_C S_X10_reads rfl ?_
    refine J_CV S_X10_reads rfl rfl (by assumption) (by omega) (by simp) (hal) ?_
    rintro _ _ ⟨J3, rfl, rfl, q1, q2⟩
    exact f43 (show sk (I 316) L 0 ≤ 40 by omega) q1.1 (by rw [q1.2.2, if_neg (by decide)]) (fun x y => (HR _ _ _ _ _).mpr rfl)
  · simp only [if_neg h5] at HR
    rw [if_neg h5] at hkw
    rw [hkr h5] at hw
    have np : ¬ nI N < 0 := fun c => nI_pos (by omega) c
    refine J_ald S_X10_reads rfl rfl ?_
    refine J_C S_X10_reads rfl ?_
    refine J_putI S_X10_reads rfl (by assumption) (by omega) ?_
    refine J_ald S_X10_reads rfl rfl ?_
    refine J_C S_X10_reads rfl ?_
    refine J_putI S_X10_reads rfl (by assumption) (by omega) ?_
    refine J_ald S_X10_reads rfl rfl ?_
    refine J_C S_X10_reads rfl ?_
    refine J_putI S_X10_reads rfl (by assumption) (by omega) ?_
    refine J_ald S_X10_reads rfl rfl ?_
    refine J_ald S_X10_reads rfl rfl ?_
    refine J_ald S_X10_reads rfl rfl ?_
    refine J_CV S_X10_reads rfl rfl (by assumption) (by omega) (by simp) (hw) ?_
    rintro _ _ ⟨J1, rfl, rfl, g1, g2, g3⟩
    have hal := Y_allows (ok := true) (ms_u (k := 14) (x := nI N) g1 (by decide)) (by rw [mj_up_eq, up_n (by decide)]; exact g2)
    refine J_CVx S_X10_reads rfl rfl (by assumption) (by omega) (by simp) (C_X10_kindOf) rfl ?_
    rw [hkw]
    refine J_putI S_X10_reads rfl (by assumption) (by omega) ?_
    refine J_ald S_X10_reads rfl rfl ?_
    refine J_ald S_X10_reads rfl rfl ?_
    refine J_getI S_X10_reads rfl (by assumption) (by omega) ?_
    rw [mj_up_eq, up_s]
    refine J_if S_X10_reads rfl (fun c32 => False.elim (np c32)) (fun c32 => ?_)
    refine J_C S_X10_reads rfl ?_
    refine J_goto S_X10_reads rfl ?_
    refine J_CV S_X10_reads rfl rfl (by assumption) (by omega) (by simp) (hal) ?_
    rintro _ _ ⟨J3, rfl, rfl, q1, q2⟩
    exact g43 hL h4 (k := N) q1 hs.2.2 (by rw [q2 14 (by decide), mj_up_eq, up_s]) (by omega) (by rw [q2 15 (by decide), mj_up_eq, up_n (by decide), g3 15 (by decide), mj_up_eq, up_s]) (fun e a x y g => (HR _ _ _ _ _).mpr ⟨by rw [q2 14 (by decide), mj_up_eq, up_s], g⟩)
end Ms3
