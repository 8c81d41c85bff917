theorem rng_1 : ∀ f, f < 12 → ∀ l, l < 12 → f ≤ l → ∀ t, t < 2 → vw_rng (nI f) (nI l) <<< ((nI t * 12 + 0) &&& 31) = nI (msk (fun c => (decide (f ≤ c % 12) && decide (c % 12 ≤ l)) && (false || decide (t = c / 12))) 24) := by decide +kernel
theorem rng_3 : ∀ f, f < 12 → ∀ l, l < 12 → f ≤ l → ∀ t, t < 2 → vw_rng (nI f) (nI l) <<< ((0 * 12 + 0 : Int32) &&& 31) ||| vw_rng (nI f) (nI l) <<< ((1 * 12 + 0 : Int32) &&& 31) = nI (msk (fun c => (decide (f ≤ c % 12) && decide (c % 12 ≤ l)) && (true || decide (t = c / 12))) 24) := by decide +kernel
/-- a view is defined -/
def defV (v : mv) (kd tb f l : Int32) : mv :=
  upd (upd (upd (upd (upd (upd (upd (upd (upd (upd v (615 + 9 * tn (v 1) + 0) kd) (615 + 9 * tn (v 1) + 1) tb) (615 + 9 * tn (v 1) + 2) f) (615 + 9 * tn (v 1) + 3) l) (615 + 9 * tn (v 1) + 4) 1) (615 + 9 * tn (v 1) + 5) 0) (615 + 9 * tn (v 1) + 6) (v 0)) (615 + 9 * tn (v 1) + 7) 0) (615 + 9 * tn (v 1) + 8) 0) 1 (v 1 + 1)
/-- may a question be asked -/
def okD (v : mv) (kd tb f l : Int32) : Prop := rg kd 4 ∧ rg tb 1 ∧ (3 ≤ kd → tb = 0) ∧ rg f 11 ∧ rg l 11 ∧ (kd = 4 → ¬ f = l ∧ isV v f = true ∧ isV v l = true) ∧ (¬ kd = 4 → tn f ≤ tn l)
section De
variable {I : mj_I} {b : Nat} {v : mv} {kd tb f l : Int32}
theorem def_o {i : Nat} (h1 : i ≠ 1) (h : i < 615 + 9 * tn (v 1) ∨ 624 + 9 * tn (v 1) ≤ i) : defV v kd tb f l i = v i := by
  unfold defV
  rw [up_n h1, up_n (by omega), up_n (by omega), up_n (by omega), up_n (by omega), up_n (by omega), up_n (by omega), up_n (by omega), up_n (by omega), up_n (by omega)]
theorem def_e : vk (defV v kd tb f l) (tn (v 1)) 0 = kd ∧ vk (defV v kd tb f l) (tn (v 1)) 1 = tb ∧ vk (defV v kd tb f l) (tn (v 1)) 2 = f ∧ vk (defV v kd tb f l) (tn (v 1)) 3 = l ∧ vk (defV v kd tb f l) (tn (v 1)) 4 = 1 ∧ vk (defV v kd tb f l) (tn (v 1)) 5 = 0 ∧ vk (defV v kd tb f l) (tn (v 1)) 6 = v 0 ∧ vk (defV v kd tb f l) (tn (v 1)) 7 = 0 ∧ vk (defV v kd tb f l) (tn (v 1)) 8 = 0 := by
  unfold defV
  refine ⟨?_, ?_, ?_, ?_, ?_, ?_, ?_, ?_, ?_⟩ <;> (repeat first | rw [vk_us] | rw [vk_up (by omega)])
theorem def_k {q : Nat} (h : q ≠ tn (v 1)) (g : Nat) (hg : g < 9) : vk (defV v kd tb f l) q g = vk v q g := def_o (by omega) (by omega)
theorem def_1 (hI : IV v) : defV v kd tb f l 1 = nI (tn (v 1) + 1) ∧ tn (defV v kd tb f l 1) = tn (v 1) + 1 := by
  have h := hI.2.1
  have hl := h.2
  have e : defV v kd tb f l 1 = nI (tn (v 1) + 1) := by
    unfold defV
    rw [up_s, nI_succ, ← h.1]
  exact ⟨e, by rw [e, tn_nI (by omega)]⟩
theorem isV_e {x : Int32} (hI : IV v) (h : isV v x = true) : x = nI (tn x) ∧ tn x < 8 ∧ vk v (tn x) 4 = 1 ∧ tn x < tn (v 1) := by
  unfold isV at h
  simp only [Bool.and_eq_true, decide_eq_true_eq] at h
  obtain ⟨h0, h8, h4⟩ := h
  have e : x = nI (tn x) := nn_tn (Int32.not_lt.mpr h0)
  have l8 : tn x < 8 := by
    rcases Nat.lt_or_ge (tn x) 8 with g | g
    · exact g
    · have := Int32.toNatClampNeg_lt x
      have h8' : nI (tn x) < nI 8 := by rw [← e]; exact h8
      have := (nI_ltI (a := tn x) (b := 8) (by unfold tn; omega) (by decide)).mp h8'
      omega
  exact ⟨e, l8, h4, hI.ex l8 h4⟩
theorem def_I (hI : IV v) (hd : tn (v 1) < 8) (hO : okD v kd tb f l) : IV (defV v kd tb f l) := by
  obtain ⟨n1, n2⟩ := def_1 hI (kd := kd) (tb := tb) (f := f) (l := l)
  obtain ⟨e0, e1, e2, e3, e4, e5, e6, e7, e8⟩ := def_e (v := v) (kd := kd) (tb := tb) (f := f) (l := l)
  obtain ⟨o1, o2, o3, o4, o5, o6, o7⟩ := hO
  have hI' := hI
  obtain ⟨a0, a1, a2, a3, a4, a5, a6⟩ := hI
  have w0 : defV v kd tb f l 0 = v 0 := def_o (by omega) (by omega)
  have l0 := a0.2
  refine ⟨by rw [w0]; exact a0, by rw [n1]; exact rg_nI (by omega) (by decide), by rw [def_o (by omega) (by omega)]; exact a2, fun j hj => by rw [def_o (by omega) (by omega)]; exact a3 j hj, fun j hj => ?_, fun q hq => ?_, fun q g1 g2 => ?_⟩
  · rw [w0] at hj
    rw [def_o (by omega) (by omega), def_o (by omega) (by omega), def_o (by omega) (by omega)]
    exact a4 j hj
  · rw [n2] at hq
    by_cases e : q = tn (v 1)
    · subst e
      unfold WV
      rw [e0, e1, e2, e3, e4, e5, e6, e7, w0]
      refine ⟨Or.inr rfl, o1, o2, o3, o4, o5, fun h => ?_, o7, fun _ h => ?_, rg_nI (n := 0) (by decide) (by decide), ⟨a0.1, Nat.le_refl _⟩, rg_nI (n := 0) (by decide) (by decide), fun _ => rfl⟩
      · obtain ⟨-, x, y⟩ := o6 h
        exact ⟨(isV_e hI' x).2.2.2, (isV_e hI' y).2.2.2⟩
      · obtain ⟨-, x, y⟩ := o6 h
        obtain ⟨-, -, x4, xl⟩ := isV_e hI' x
        obtain ⟨-, -, y4, yl⟩ := isV_e hI' y
        rw [def_k (by omega) 4 (by decide), def_k (by omega) 4 (by decide)]
        exact ⟨x4, y4⟩
    · obtain ⟨b1, b2, b3, b4, b5, b6, b7, b8, b9, b10⟩ := a5 q (by omega)
      unfold WV
      rw [def_k e 0 (by decide), def_k e 1 (by decide), def_k e 2 (by decide), def_k e 3 (by decide), def_k e 4 (by decide), def_k e 5 (by decide), def_k e 6 (by decide), def_k e 7 (by decide), w0]
      refine ⟨b1, b2, b3, b4, b5, b6, b7, b8, fun h h' => ?_, b10⟩
      obtain ⟨x, y⟩ := b7 h'
      rw [def_k (by omega) 4 (by decide), def_k (by omega) 4 (by decide)]
      exact b9 h h'
  · rw [n2] at g1
    rw [def_k (by omega) 4 (by decide)]
    exact a6 q (by omega) g2
theorem def_Z (h : ZB v) : ZB (defV v kd tb f l) := fun q hq g4 g5 => by
  by_cases e : q = tn (v 1)
  · subst e; exact def_e.2.2.2.2.2.2.2.1
  · rw [def_k e 4 (by decide)] at g4
    rw [def_k e 5 (by decide)] at g5
    rw [def_k e 7 (by decide)]
    exact h q hq g4 g5
theorem def_h (hd : tn (v 1) < 8) {i : Nat} (hi : 687 ≤ i) : defV v kd tb f l i = v i := def_o (by omega) (by omega)
theorem def_cs {q : Nat} (hq : q < tn (v 1)) : cs (defV v kd tb f l) q = cs v q ∧ ks (defV v kd tb f l) q = ks v q := by
  have e : ∀ g k, k < tn (v 1) → cs_s (defV v kd tb f l) g k = cs_s v g k := by
    intro g k hk
    unfold cs_s
    rw [def_k (by omega) 0 (by decide), def_k (by omega) 1 (by decide), def_k (by omega) 2 (by decide), def_k (by omega) 3 (by decide)]
  have e2 : ∀ g k, k < tn (v 1) → ks_s (defV v kd tb f l) g k = ks_s v g k := by
    intro g k hk
    unfold ks_s
    rw [def_k (by omega) 0 (by decide), def_k (by omega) 2 (by decide), def_k (by omega) 3 (by decide)]
  constructor
  · unfold cs tb_v
    rw [tb_n_congr2 e q (by omega), e _ q hq]
  · unfold ks tb_v
    rw [tb_n_congr2 e2 q (by omega), e2 _ q hq]
theorem def_cm4 (hI : IV v) (h4 : kd = 4) (hO : okD v kd tb f l) : cm (defV v kd tb f l) (tn (v 1)) = cm v (tn f) ||| cm v (tn l) ∧ ks (defV v kd tb f l) (tn (v 1)) = ks v (tn f) + ks v (tn l) := by
  obtain ⟨e0, e1, e2, e3, -⟩ := def_e (v := v) (kd := kd) (tb := tb) (f := f) (l := l)
  obtain ⟨-, x, y⟩ := hO.2.2.2.2.2.1 h4
  obtain ⟨-, -, -, xl⟩ := isV_e hI x
  obtain ⟨-, -, -, yl⟩ := isV_e hI y
  constructor
  · unfold cm
    rw [msk_or]
    refine msk_ext (fun c _ => ?_)
    have gen : ∀ G, cs_s (defV v kd tb f l) G (tn (v 1)) c = (G (tn f) c || G (tn l) c) := fun G => by
      unfold cs_s
      rw [e0, if_pos h4, e2, e3]
    show cs_s (defV v kd tb f l) (tb_n _ (cs_s (defV v kd tb f l)) (tn (v 1))) (tn (v 1)) c = _
    rw [gen]
    rw [show tb_n (fun _ => false) _ (tn (v 1)) (tn f) = cs (defV v kd tb f l) (tn f) from tb_lt xl, show tb_n (fun _ => false) _ (tn (v 1)) (tn l) = cs (defV v kd tb f l) (tn l) from tb_lt yl, (def_cs xl).1, (def_cs yl).1]
  · have gen : ∀ G, ks_s (defV v kd tb f l) G (tn (v 1)) = G (tn f) + G (tn l) := fun G => by
      unfold ks_s
      rw [e0, if_pos h4, e2, e3]
    show ks_s (defV v kd tb f l) (tb_n _ (ks_s (defV v kd tb f l)) (tn (v 1))) (tn (v 1)) = _
    rw [gen]
    rw [show tb_n 0 _ (tn (v 1)) (tn f) = ks (defV v kd tb f l) (tn f) from tb_lt xl, show tb_n 0 _ (tn (v 1)) (tn l) = ks (defV v kd tb f l) (tn l) from tb_lt yl, (def_cs xl).2, (def_cs yl).2]
theorem def_cmr (h4 : ¬ kd = 4) : cm (defV v kd tb f l) (tn (v 1)) = msk (fun c => (decide (tn f ≤ c % 12) && decide (c % 12 ≤ tn l)) && (decide (kd = 3) || decide (tn tb = c / 12))) 24 ∧ ks (defV v kd tb f l) (tn (v 1)) = tn l + 1 - tn f := by
  obtain ⟨e0, e1, e2, e3, -⟩ := def_e (v := v) (kd := kd) (tb := tb) (f := f) (l := l)
  constructor
  · unfold cm
    refine msk_ext (fun c _ => ?_)
    show cs_s (defV v kd tb f l) (tb_n _ (cs_s (defV v kd tb f l)) (tn (v 1))) (tn (v 1)) c = _
    unfold cs_s
    rw [e0, if_neg h4, e1, e2, e3]
  · show ks_s (defV v kd tb f l) (tb_n _ (ks_s (defV v kd tb f l)) (tn (v 1))) (tn (v 1)) = _
    unfold ks_s
    rw [e0, if_neg h4, e2, e3]
theorem def_R (hR : RB I b v) (hI : IV v) (hd : tn (v 1) < 8) {J : mj_I} (h1 : ∀ q, q ≠ b → q ≠ b + 7 + tn (v 1) → J q = I q) (hb4 : J b 4 = nI (tn (v 1) + 1)) (hb : ∀ i, i ≠ 4 → J b i = I b i)
    (g0 : J (b + 7 + tn (v 1)) 0 = 1) (g1 : J (b + 7 + tn (v 1)) 1 = kd) (g2 : J (b + 7 + tn (v 1)) 2 = tb) (g3 : J (b + 7 + tn (v 1)) 3 = f) (g4 : J (b + 7 + tn (v 1)) 4 = l)
    (g5 : J (b + 7 + tn (v 1)) 5 = nI (cm (defV v kd tb f l) (tn (v 1)))) (g6 : J (b + 7 + tn (v 1)) 6 = nI (ks (defV v kd tb f l) (tn (v 1)))) (g7 : J (b + 7 + tn (v 1)) 7 = 0) (g8 : J (b + 7 + tn (v 1)) 8 = v 0) (g9 : J (b + 7 + tn (v 1)) 9 = 0) (g10 : J (b + 7 + tn (v 1)) 10 = I (b + 7 + tn (v 1)) 10) : RB J b (defV v kd tb f l) := by
  obtain ⟨n1, n2⟩ := def_1 hI (kd := kd) (tb := tb) (f := f) (l := l)
  obtain ⟨e0, e1, e2, e3, e4, e5, e6, e7, e8⟩ := def_e (v := v) (kd := kd) (tb := tb) (f := f) (l := l)
  obtain ⟨h1', h2', h3', h4', h5'⟩ := hR
  have l0 := hI.1.2
  have w0 : defV v kd tb f l 0 = v 0 := def_o (by omega) (by omega)
  refine ⟨by rw [h1 _ (by omega) (by omega), w0]; exact h1', fun i hi => ?_, fun i hi => by rw [h1 _ (by omega) (by omega), def_o (by omega) (by omega)]; exact h3' i hi, fun j hj => ?_, fun q hq8 => ?_⟩
  · by_cases e : i = 0
    · subst e; rw [hb4]; exact n1.symm
    · rw [hb _ (by omega), def_o (by omega) (by omega)]; exact h2' i hi
  · rw [w0] at hj
    unfold cl
    rw [h1 _ (by omega) (by omega), h1 _ (by omega) (by omega), def_o (by omega) (by omega), def_o (by omega) (by omega), def_o (by omega) (by omega)]
    exact h4' j hj
  · obtain ⟨x1, x2, x3⟩ := h5' q hq8
    rw [n2]
    by_cases e : q = tn (v 1)
    · subst e
      rw [e4]
      refine ⟨g0, ⟨Or.inl g7, fun hh => by omega⟩, fun _ => ?_⟩
      unfold RV
      rw [e0, e1, e2, e3, e5, e6, e7, e8]
      exact ⟨g1, g2, g3, g4, g5, g6, g7, g8, g9, by rw [g10]; exact x2.2 (Nat.le_refl _)⟩
    · rw [h1 _ (by omega) (by omega), def_k e 4 (by decide)]
      refine ⟨x1, ⟨x2.1, fun hh => x2.2 (by omega)⟩, fun he => ?_⟩
      have hlt := hI.ex hq8 he
      obtain ⟨c1, c2⟩ := def_cs (v := v) (kd := kd) (tb := tb) (f := f) (l := l) hlt
      unfold RV cm
      rw [def_k e 0 (by decide), def_k e 1 (by decide), def_k e 2 (by decide), def_k e 3 (by decide), def_k e 5 (by decide), def_k e 6 (by decide), def_k e 7 (by decide), def_k e 8 (by decide), c1, c2]
      exact x3 he
theorem C_X0_noteParts {o p q : Nat} (hs : mj_sh o = (8, 11)) (ho : o < 313) (hs1 : mj_sh p = (8, 11)) (ho1 : p < 313) (hs2 : mj_sh q = (8, 11)) (ho2 : q < 313) : mj_R D_X0_noteParts [.inr (some b), .inr (some o), .inr (some p), .inr (some q)] (mj_w I) (mj_ex none (mj_up (mj_up I o 5 (I p 5 ||| I q 5)) o 6 (I p 6 + I q 6))) := by
  refine mj_enter (by decide +kernel) (Nat.le_of_ble_eq_true rfl) ?_
  refine J_ald S_X0_noteParts rfl rfl ?_
  refine J_nuS S_X0_noteParts rfl ?_
  refine J_ald S_X0_noteParts rfl rfl ?_
  refine J_nuS S_X0_noteParts rfl ?_
  refine J_ald S_X0_noteParts rfl rfl ?_
  refine J_ald S_X0_noteParts rfl rfl ?_
  refine J_getI S_X0_noteParts rfl (by assumption) (by omega) ?_
  refine J_ald S_X0_noteParts rfl rfl ?_
  refine J_getI S_X0_noteParts rfl (by assumption) (by omega) ?_
  refine J_bin S_X0_noteParts rfl ?_
  refine J_ald S_X0_noteParts rfl rfl ?_
  refine J_getI S_X0_noteParts rfl (by assumption) (by omega) ?_
  refine J_ald S_X0_noteParts rfl rfl ?_
  refine J_getI S_X0_noteParts rfl (by assumption) (by omega) ?_
  refine J_bin S_X0_noteParts rfl ?_
  refine J_CVx S_X0_noteParts rfl rfl (by assumption) (by omega) (by simp) (C_X8_concern hs ho) rfl ?_
  refine J_retV S_X0_noteParts rfl ?_
  exact ⟨rfl, rfl⟩
theorem C_X0_addView (hB : mj_isB b) (hR : RB I b v) (hI : IV v) (hd : tn (v 1) < 8) (hO : okD v kd tb f l) : mj_R D_X0_addView [.inr (some b), .inl kd, .inl tb, .inl f, .inl l] (mj_w I) (mj_px (fun r I' => r = some (.inl (nI (tn (v 1)))) ∧ RB I' b (defV v kd tb f l) ∧ Fr b I I')) := by
  have hB' := hB
  obtain ⟨h0, h1, h2, h3, h4, h5, h6, hv, hb⟩ := hB
  have hvk := hv _ hd
  have e1 : I b 4 = nI (tn (v 1)) := by rw [hR.2.1 0 (by decide)]; exact hI.2.1.1
  have e0 : I (b + 1) 2 = v 0 := hR.1
  have DR := fun J => def_R (J := J) (kd := kd) (tb := tb) (f := f) (l := l) hR hI hd
  have hcm4 := def_cm4 (v := v) (kd := kd) (tb := tb) (f := f) (l := l) hI
  have hcmr := def_cmr (v := v) (kd := kd) (tb := tb) (f := f) (l := l)
  obtain ⟨o1, o2, o3, o4, o5, o6, o7⟩ := id hO
  have o6' := fun h => o6 h
  generalize hk : tn (v 1) = k at *
  have hne : b + 7 + k ≠ b := by omega
  have hne1 : b + 1 ≠ b + 7 + k := by omega
  have fin : ∀ (J : mj_I) (x5 x6 : Int32), x5 = nI (cm (defV v kd tb f l) k) → x6 = nI (ks (defV v kd tb f l) k) → J = mj_up (mj_up (mj_up (mj_up (mj_up (mj_up (mj_up (mj_up (mj_up (mj_up (mj_up I (b + 7 + k) 1 kd) (b + 7 + k) 2 tb) (b + 7 + k) 3 f) (b + 7 + k) 4 l) (b + 7 + k) 5 x5) (b + 7 + k) 6 x6) (b + 7 + k) 0 1) (b + 7 + k) 7 0) (b + 7 + k) 8 (v 0)) (b + 7 + k) 9 0) b 4 (nI (k + 1)) → RB J b (defV v kd tb f l) ∧ Fr b I J := by
    intro J x5 x6 h5 h6 hJ
    subst hJ
    constructor
    · refine DR _ (fun q g1 g2 => by simp only [mj_up_ne g1, mj_up_ne g2]) (by rw [mj_up_eq, up_s]) (fun i hi => by rw [mj_up_eq, up_n hi]; simp only [mj_up_ne hne.symm]) ?_ ?_ ?_ ?_ ?_ ?_ ?_ ?_ ?_ ?_ ?_ <;> simp only [mj_up_ne hne, mj_up_eq]
      · repeat first | rw [up_s] | rw [up_n (by decide)]
      · repeat first | rw [up_s] | rw [up_n (by decide)]
      · repeat first | rw [up_s] | rw [up_n (by decide)]
      · repeat first | rw [up_s] | rw [up_n (by decide)]
      · repeat first | rw [up_s] | rw [up_n (by decide)]
      · rw [← h5]; repeat first | rw [up_s] | rw [up_n (by decide)]
      · rw [← h6]; repeat first | rw [up_s] | rw [up_n (by decide)]
      · repeat first | rw [up_s] | rw [up_n (by decide)]
      · repeat first | rw [up_s] | rw [up_n (by decide)]
      · repeat first | rw [up_s] | rw [up_n (by decide)]
      · repeat first | rw [up_s] | rw [up_n (by decide)]
    · exact fr_up (fr_up (fr_up (fr_up (fr_up (fr_up (fr_up (fr_up (fr_up (fr_up (fr_up fr_rf (by omega) (by omega)) (by omega) (by omega)) (by omega) (by omega)) (by omega) (by omega)) (by omega) (by omega)) (by omega) (by omega)) (by omega) (by omega)) (by omega) (by omega)) (by omega) (by omega)) (by omega) (by omega)) (by omega) (by omega)
  have hpo := C_X8_pose (I := I) (a := kd) (b := tb) (c := f) (e := l) hvk (by omega)
  have hbe := fun J => C_X8_begin (I := J) (a := v 0) hvk (by omega)
  have hcn := fun J x y => C_X8_concern (I := J) (a := x) (b := y) hvk (by omega)
  refine mj_enter (by decide +kernel) (Nat.le_of_ble_eq_true rfl) ?_
  have hJ0 : ∀ q, q < 8 → mj_up (mj_up (mj_up (mj_up I (b + 7 + k) 1 kd) (b + 7 + k) 2 tb) (b + 7 + k) 3 f) (b + 7 + k) 4 l (b + 7 + q) 0 = vk v q 4 := fun q hq => by
    have g := (hR.2.2.2.2 q hq).1
    by_cases e : q = k
    · subst e
      rw [mj_up_eq, up_n (by decide), mj_up_eq, up_n (by decide), mj_up_eq, up_n (by decide), mj_up_eq, up_n (by decide)]
      exact g
    · simp only [mj_up_ne (show b + 7 + q ≠ b + 7 + k by omega)]
      exact g
  by_cases h4' : kd = 4
  · obtain ⟨-, x, y⟩ := o6' h4'
    obtain ⟨xe, x8, x4, xl⟩ := isV_e hI x
    obtain ⟨ye, y8, y4, yl⟩ := isV_e hI y
    rw [hk] at xl yl
    have hx := C_X0_find (v := v) (x := f) hB' hJ0 (fun q hq => hI.b01 hq)
    have hy := C_X0_find (v := v) (x := l) hB' hJ0 (fun q hq => hI.b01 hq)
    rw [x, if_pos rfl] at hx
    rw [y, if_pos rfl] at hy
    have hnp := fun J => C_X0_noteParts (b := b) (I := J) (o := b + 7 + k) (p := b + 7 + tn f) (q := b + 7 + tn l) hvk (by omega) (hv _ x8) (by omega) (hv _ y8) (by omega)
    obtain ⟨q1, q2⟩ := hcm4 h4' hO
    obtain ⟨-, -, -, -, u5, u6, -⟩ := (hR.2.2.2.2 _ x8).2.2 x4
    obtain ⟨-, -, -, -, w5, w6, -⟩ := (hR.2.2.2.2 _ y8).2.2 y4
    refine J_ald S_X0_addView rfl rfl ?_
    refine J_getI S_X0_addView rfl (by assumption) (by omega) ?_
    rw [e1]
    refine J_ist S_X0_addView rfl rfl ?_
    refine J_ild S_X0_addView rfl rfl ?_
    refine J_if S_X0_addView rfl (fun c8 => False.elim (nI_pos (by omega) c8)) (fun c8 => ?_)
    refine J_ild S_X0_addView rfl rfl ?_
    refine J_ald S_X0_addView rfl rfl ?_
    refine J_getR S_X0_addView rfl (by assumption) (by omega) rfl ?_
    refine J_len S_X0_addView rfl (by assumption) (by omega) (by decide) ?_
    refine J_cmp S_X0_addView rfl (fun c18 => False.elim (nI_ge (b := 8) hd (by decide) c18)) (fun c18 => ?_)
    refine J_ald S_X0_addView rfl rfl ?_
    refine J_getR S_X0_addView rfl (by assumption) (by omega) rfl ?_
    refine J_ild S_X0_addView rfl rfl ?_
    refine J_aald S_X0_addView rfl (by assumption) (by omega) (j := k) rfl (by omega) (by decide) rfl ?_
    refine J_nnS S_X0_addView rfl ?_
    refine J_ald S_X0_addView rfl rfl ?_
    refine J_getR S_X0_addView rfl (by assumption) (by omega) rfl ?_
    refine J_ild S_X0_addView rfl rfl ?_
    refine J_aald S_X0_addView rfl (by assumption) (by omega) (j := k) rfl (by omega) (by decide) rfl ?_
    refine J_ast S_X0_addView rfl rfl ?_
    refine J_ald S_X0_addView rfl rfl ?_
    refine J_ild S_X0_addView rfl rfl ?_
    refine J_ild S_X0_addView rfl rfl ?_
    refine J_ild S_X0_addView rfl rfl ?_
    refine J_ild S_X0_addView rfl rfl ?_
    refine J_CVx S_X0_addView rfl rfl (by assumption) (by omega) (by simp) (hpo) rfl ?_
    refine J_ild S_X0_addView rfl rfl ?_
    refine J_C S_X0_addView rfl ?_
    refine J_cmp S_X0_addView rfl (fun c55 => False.elim (c55 h4')) (fun c55 => ?_)
    refine J_ald S_X0_addView rfl rfl ?_
    refine J_ald S_X0_addView rfl rfl ?_
    refine J_ald S_X0_addView rfl rfl ?_
    refine J_ild S_X0_addView rfl rfl ?_
    refine J_CVx S_X0_addView rfl rfl (by assumption) (by omega) (by simp) (hx) rfl ?_
    refine J_ald S_X0_addView rfl rfl ?_
    refine J_ild S_X0_addView rfl rfl ?_
    refine J_CVx S_X0_addView rfl rfl (by assumption) (by omega) (by simp) (hy) rfl ?_
    refine J_CVx S_X0_addView rfl rfl (by assumption) (by omega) (by simp) (hnp _) rfl ?_
    refine J_goto S_X0_addView rfl ?_
    refine J_ald S_X0_addView rfl rfl ?_
    refine J_ald S_X0_addView rfl rfl ?_
    refine J_getR S_X0_addView rfl (by assumption) (by omega) rfl ?_
    refine J_getI S_X0_addView rfl (by assumption) (by omega) ?_
    simp only [mj_up_ne hne1]; rw [e0]
    refine J_CVx S_X0_addView rfl rfl (by assumption) (by omega) (by simp) (hbe _) rfl ?_
    refine J_ald S_X0_addView rfl rfl ?_
    refine J_ild S_X0_addView rfl rfl ?_
    refine J_C S_X0_addView rfl ?_
    refine J_bin S_X0_addView rfl ?_
    refine J_putI S_X0_addView rfl (by assumption) (by omega) ?_
    refine J_ild S_X0_addView rfl rfl ?_
    refine J_retI S_X0_addView rfl ?_
    refine ⟨_, rfl, rfl, fin _ _ _ ?_ ?_ (by rw [← nI_succ])⟩
    · simp only [mj_up_ne (show b + 7 + tn f ≠ b + 7 + k by omega), mj_up_ne (show b + 7 + tn l ≠ b + 7 + k by omega)]; rw [u5, w5, fa_or, q1]
    · simp only [mj_up_ne (show b + 7 + tn f ≠ b + 7 + k by omega), mj_up_ne (show b + 7 + tn l ≠ b + 7 + k by omega)]; rw [u6, w6, nI_add, q2]
  · have hle := o7 h4'
    obtain ⟨q1, q2⟩ := hcmr h4'
    have hrc := fun J => C_X8_rangeCells (I := J) hvk (by omega)
    have hrk := fun J => C_X8_rangeKeys (I := J) hvk (by omega)
    have b1 := o2.2
    have b2 := o4.2
    have b3 := o5.2
    have v1 : mj_up (mj_up (mj_up (mj_up I (b + 7 + k) 1 kd) (b + 7 + k) 2 tb) (b + 7 + k) 3 f) (b + 7 + k) 4 l (b + 7 + k) 1 = kd := by rw [mj_up_eq, up_n (by decide), mj_up_eq, up_n (by decide), mj_up_eq, up_n (by decide), mj_up_eq, up_s]
    have v2 : mj_up (mj_up (mj_up (mj_up I (b + 7 + k) 1 kd) (b + 7 + k) 2 tb) (b + 7 + k) 3 f) (b + 7 + k) 4 l (b + 7 + k) 2 = tb := by rw [mj_up_eq, up_n (by decide), mj_up_eq, up_n (by decide), mj_up_eq, up_s]
    have v3 : mj_up (mj_up (mj_up (mj_up I (b + 7 + k) 1 kd) (b + 7 + k) 2 tb) (b + 7 + k) 3 f) (b + 7 + k) 4 l (b + 7 + k) 3 = f := by rw [mj_up_eq, up_n (by decide), mj_up_eq, up_s]
    have v4 : mj_up (mj_up (mj_up (mj_up I (b + 7 + k) 1 kd) (b + 7 + k) 2 tb) (b + 7 + k) 3 f) (b + 7 + k) 4 l (b + 7 + k) 4 = l := by rw [mj_up_eq, up_s]
    have hcell : (if kd = 3 then vw_rng f l <<< ((0 * 12 + 0 : Int32) &&& 31) ||| vw_rng f l <<< ((1 * 12 + 0 : Int32) &&& 31) else vw_rng f l <<< ((tb * 12 + 0) &&& 31)) = nI (msk (fun c => (decide (tn f ≤ c % 12) && decide (c % 12 ≤ tn l)) && (decide (kd = 3) || decide (tn tb = c / 12))) 24) := by
      have r1 := rng_1 (tn f) (by omega) (tn l) (by omega) hle (tn tb) (by omega)
      have r3 := rng_3 (tn f) (by omega) (tn l) (by omega) hle (tn tb) (by omega)
      rw [← o4.1, ← o5.1] at r1 r3
      rw [← o2.1] at r1
      by_cases g : kd = 3
      · rw [if_pos g, decide_eq_true g]; exact r3
      · rw [if_neg g, decide_eq_false g]; exact r1
    have hkey : l - f + 1 = nI (tn l + 1 - tn f) := by
      rw [o4.1, o5.1, tn_nI (by omega), tn_nI (by omega), pk_sub hle, show tn l + 1 - tn f = tn l - tn f + 1 by omega, nI_succ]
    have b3 := o5.2
    refine J_ald S_X0_addView rfl rfl ?_
    refine J_getI S_X0_addView rfl (by assumption) (by omega) ?_
    rw [e1]
    refine J_ist S_X0_addView rfl rfl ?_
    refine J_ild S_X0_addView rfl rfl ?_
    refine J_if S_X0_addView rfl (fun c8 => False.elim (nI_pos (by omega) c8)) (fun c8 => ?_)
    refine J_ild S_X0_addView rfl rfl ?_
    refine J_ald S_X0_addView rfl rfl ?_
    refine J_getR S_X0_addView rfl (by assumption) (by omega) rfl ?_
    refine J_len S_X0_addView rfl (by assumption) (by omega) (by decide) ?_
    refine J_cmp S_X0_addView rfl (fun c18 => False.elim (nI_ge (b := 8) hd (by decide) c18)) (fun c18 => ?_)
    refine J_ald S_X0_addView rfl rfl ?_
    refine J_getR S_X0_addView rfl (by assumption) (by omega) rfl ?_
    refine J_ild S_X0_addView rfl rfl ?_
    refine J_aald S_X0_addView rfl (by assumption) (by omega) (j := k) rfl (by omega) (by decide) rfl ?_
    refine J_nnS S_X0_addView rfl ?_
    refine J_ald S_X0_addView rfl rfl ?_
    refine J_getR S_X0_addView rfl (by assumption) (by omega) rfl ?_
    refine J_ild S_X0_addView rfl rfl ?_
    refine J_aald S_X0_addView rfl (by assumption) (by omega) (j := k) rfl (by omega) (by decide) rfl ?_
    refine J_ast S_X0_addView rfl rfl ?_
    refine J_ald S_X0_addView rfl rfl ?_
    refine J_ild S_X0_addView rfl rfl ?_
    refine J_ild S_X0_addView rfl rfl ?_
    refine J_ild S_X0_addView rfl rfl ?_
    refine J_ild S_X0_addView rfl rfl ?_
    refine J_CVx S_X0_addView rfl rfl (by assumption) (by omega) (by simp) (hpo) rfl ?_
    refine J_ild S_X0_addView rfl rfl ?_
    refine J_C S_X0_addView rfl ?_
    refine J_cmp S_X0_addView rfl (fun c55 => ?_) (fun c55 => False.elim (h4' c55))
    refine J_ald S_X0_addView rfl rfl ?_
    refine J_ald S_X0_addView rfl rfl ?_
    refine J_CVx S_X0_addView rfl rfl (by assumption) (by omega) (by simp) (hrc _) rfl ?_
    refine J_ald S_X0_addView rfl rfl ?_
    refine J_CVx S_X0_addView rfl rfl (by assumption) (by omega) (by simp) (hrk _) rfl ?_
    refine J_CVx S_X0_addView rfl rfl (by assumption) (by omega) (by simp) (hcn _ _ _) rfl ?_
    refine J_ald S_X0_addView rfl rfl ?_
    refine J_ald S_X0_addView rfl rfl ?_
    refine J_getR S_X0_addView rfl (by assumption) (by omega) rfl ?_
    refine J_getI S_X0_addView rfl (by assumption) (by omega) ?_
    simp only [mj_up_ne hne1]; rw [e0]
    refine J_CVx S_X0_addView rfl rfl (by assumption) (by omega) (by simp) (hbe _) rfl ?_
    refine J_ald S_X0_addView rfl rfl ?_
    refine J_ild S_X0_addView rfl rfl ?_
    refine J_C S_X0_addView rfl ?_
    refine J_bin S_X0_addView rfl ?_
    refine J_putI S_X0_addView rfl (by assumption) (by omega) ?_
    refine J_ild S_X0_addView rfl rfl ?_
    refine J_retI S_X0_addView rfl ?_
    refine ⟨_, rfl, rfl, fin _ _ _ ?_ ?_ (by rw [← nI_succ])⟩
    · rw [v1, v2, v3, v4, q1]; exact hcell
    · rw [v3, v4, q2]; exact hkey
end De
