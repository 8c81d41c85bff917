theorem rng_1 : ∀ f, f < 12 → ∀ l, l < 12 → f ≤ l → ∀ t, t < 2 → vw_rng (nI f) (nI l) <<< ((nI t * 12 + 0) &&& 31) = nI (msk (fun c => (decide (f ≤ c % 12) && decide (c % 12 ≤ l)) && (false || decide (t = c / 12))) 24) := by decide +kernel
theorem rng_3 : ∀ f, f < 12 → ∀ l, l < 12 → f ≤ l → ∀ t, t < 2 → vw_rng (nI f) (nI l) <<< ((0 * 12 + 0 : Int32) &&& 31) ||| vw_rng (nI f) (nI l) <<< ((1 * 12 + 0 : Int32) &&& 31) = nI (msk (fun c => (decide (f ≤ c % 12) && decide (c % 12 ≤ l)) && (true || decide (t = c / 12))) 24) := by decide +kernel
/-- a view is defined -/
def defV (v : mv) (kd tb f l : Int32) : mv :=
  upd (upd (upd (upd (upd (upd (upd (upd (upd (upd v (615 + 9 * tn (v 1) + 0) kd) (615 + 9 * tn (v 1) + 1) tb) (615 + 9 * tn (v 1) + 2) f) (615 + 9 * tn (v 1) + 3) l) (615 + 9 * tn (v 1) + 4) 1) (615 + 9 * tn (v 1) + 5) 0) (615 + 9 * tn (v 1) + 6) (v 0)) (615 + 9 * tn (v 1) + 7) 0) (615 + 9 * tn (v 1) + 8) 0) 1 (v 1 + 1)
/-- may a question be asked -/
def okD (v : mv) (kd tb f l : Int32) : Prop := rg kd 4 ∧ rg tb 1 ∧ (3 ≤ kd → tb = 0) ∧ rg f 11 ∧ rg l 11 ∧ (kd = 4 → ¬ f = l ∧ isV v f = true ∧ isV v l = true) ∧ (¬ kd = 4 → tn f ≤ tn l)
section De
variable {I : mj_I} {b : Nat} {v : mv} {kd tb f l : Int32}
theorem def_o {i : Nat} (h1 : i ≠ 1) (h : i < 615 + 9 * tn (v 1) ∨ 624 + 9 * tn (v 1) ≤ i) : defV v kd tb f l i = v i := by
  unfold defV
  rw [up_n h1, up_n (by omega), up_n (by omega), up_n (by omega), up_n (by omega), up_n (by omega), up_n (by omega), up_n (by omega), up_n (by omega), up_n (by omega)]
theorem def_e : vk (defV v kd tb f l) (tn (v 1)) 0 = kd ∧ vk (defV v kd tb f l) (tn (v 1)) 1 = tb ∧ vk (defV v kd tb f l) (tn (v 1)) 2 = f ∧ vk (defV v kd tb f l) (tn (v 1)) 3 = l ∧ vk (defV v kd tb f l) (tn (v 1)) 4 = 1 ∧ vk (defV v kd tb f l) (tn (v 1)) 5 = 0 ∧ vk (defV v kd tb f l) (tn (v 1)) 6 = v 0 ∧ vk (defV v kd tb f l) (tn (v 1)) 7 = 0 ∧ vk (defV v kd tb f l) (tn (v 1)) 8 = 0 := by
  unfold defV
  refine ⟨?_, ?_, ?_, ?_, ?_, ?_, ?_, ?_, ?_⟩ <;> (repeat first | rw [vk_us] | rw [vk_up (by omega)])
theorem def_k {q : Nat} (h : q ≠ tn (v 1)) (g : Nat) (hg : g < 9) : vk (defV v kd tb f l) q g = vk v q g := def_o (by omega) (by omega)
theorem def_1 (hI : IV v) : defV v kd tb f l 1 = nI (tn (v 1) + 1) ∧ tn (defV v kd tb f l 1) = tn (v 1) + 1 := by
  have h := hI.2.1
  have hl := h.2
  have e : defV v kd tb f l 1 = nI (tn (v 1) + 1) := by
    unfold defV
    rw [up_s, nI_succ, ← h.1]
  exact ⟨e, by rw [e, tn_nI (by omega)]⟩
theorem isV_e {x : Int32} (hI : IV v) (h : isV v x = true) : x = nI (tn x) ∧ tn x < 8 ∧ vk v (tn x) 4 = 1 ∧ tn x < tn (v 1) := by
  unfold isV at h
  simp only [Bool.and_eq_true, decide_eq_true_eq] at h
  obtain ⟨h0, h8, h4⟩ := h
  have e : x = nI (tn x) := nn_tn (Int32.not_lt.mpr h0)
  have l8 : tn x < 8 := by
    rcases Nat.lt_or_ge (tn x) 8 with g | g
    · exact g
    · have := Int32.toNatClampNeg_lt x
      have h8' : nI (tn x) < nI 8 := by rw [← e]; exact h8
      have := (nI_ltI (a := tn x) (b := 8) (by unfold tn; omega) (by decide)).mp h8'
      omega
  exact ⟨e, l8, h4, hI.ex l8 h4⟩
theorem def_I (hI : IV v) (hd : tn (v 1) < 8) (hO : okD v kd tb f l) : IV (defV v kd tb f l) := by
  obtain ⟨n1, n2⟩ := def_1 hI (kd := kd) (tb := tb) (f := f) (l := l)
  obtain ⟨e0, e1, e2, e3, e4, e5, e6, e7, e8⟩ := def_e (v := v) (kd := kd) (tb := tb) (f := f) (l := l)
  obtain ⟨o1, o2, o3, o4, o5, o6, o7⟩ := hO
  have hI' := hI
  obtain ⟨a0, a1, a2, a3, a4, a5, a6⟩ := hI
  have w0 : defV v kd tb f l 0 = v 0 := def_o (by omega) (by omega)
  have l0 := a0.2
  refine ⟨by rw [w0]; exact a0, by rw [n1]; exact rg_nI (by omega) (by decide), by rw [def_o (by omega) (by omega)]; exact a2, fun j hj => by rw [def_o (by omega) (by omega)]; exact a3 j hj, fun j hj => ?_, fun q hq => ?_, fun q g1 g2 => ?_⟩
  · rw [w0] at hj
    rw [def_o (by omega) (by omega), def_o (by omega) (by omega), def_o (by omega) (by omega)]
    exact a4 j hj
  · rw [n2] at hq
    by_cases e : q = tn (v 1)
    · subst e
      unfold WV
      rw [e0, e1, e2, e3, e4, e5, e6, e7, w0]
      refine ⟨Or.inr rfl, o1, o2, o3, o4, o5, fun h => ?_, o7, fun _ h => ?_, rg_nI (n := 0) (by decide) (by decide), ⟨a0.1, Nat.le_refl _⟩, rg_nI (n := 0) (by decide) (by decide), fun _ => rfl⟩
      · obtain ⟨-, x, y⟩ := o6 h
        exact ⟨(isV_e hI' x).2.2.2, (isV_e hI' y).2.2.2⟩
      · obtain ⟨-, x, y⟩ := o6 h
        obtain ⟨-, -, x4, xl⟩ := isV_e hI' x
        obtain ⟨-, -, y4, yl⟩ := isV_e hI' y
        rw [def_k (by omega) 4 (by decide), def_k (by omega) 4 (by decide)]
        exact ⟨x4, y4⟩
    · obtain ⟨b1, b2, b3, b4, b5, b6, b7, b8, b9, b10⟩ := a5 q (by omega)
      unfold WV
      rw [def_k e 0 (by decide), def_k e 1 (by decide), def_k e 2 (by decide), def_k e 3 (by decide), def_k e 4 (by decide), def_k e 5 (by decide), def_k e 6 (by decide), def_k e 7 (by decide), w0]
      refine ⟨b1, b2, b3, b4, b5, b6, b7, b8, fun h h' => ?_, b10⟩
      obtain ⟨x, y⟩ := b7 h'
      rw [def_k (by omega) 4 (by decide), def_k (by omega) 4 (by decide)]
      exact b9 h h'
  · rw [n2] at g1
    rw [def_k (by omega) 4 (by decide)]
    exact a6 q (by omega) g2
theorem def_Z (h : ZB v) : ZB (defV v kd tb f l) := fun q hq g4 g5 => by
  by_cases e : q = tn (v 1)
  · subst e; exact def_e.2.2.2.2.2.2.2.1
  · rw [def_k e 4 (by decide)] at g4
    rw [def_k e 5 (by decide)] at g5
    rw [def_k e 7 (by decide)]
    exact h q hq g4 g5
theorem def_h (hd : tn (v 1) < 8) {i : Nat} (hi : 687 ≤ i) : defV v kd tb f l i = v i := def_o (by omega) (by omega)
theorem def_cs {q : Nat} (hq : q < tn (v 1)) : cs (defV v kd tb f l) q = cs v q ∧ ks (defV v kd tb f l) q = ks v q := by
  have e : ∀ g k, k < tn (v 1) → cs_s (defV v kd tb f l) g k = cs_s v g k := by
    intro g k hk
    unfold cs_s
    rw [def_k (by omega) 0 (by decide), def_k (by omega) 1 (by decide), def_k (by omega) 2 (by decide), def_k (by omega) 3 (by decide)]
  have e2 : ∀ g k, k < tn (v 1) → ks_s (defV v kd tb f l) g k = ks_s v g k := by
    intro g k hk
    unfold ks_s
    rw [def_k (by omega) 0 (by decide), def_k (by omega) 2 (by decide), def_k (by omega) 3 (by decide)]
  constructor
  · unfold cs tb_v
    rw [tb_n_congr2 e q (by omega), e _ q hq]
  · unfold ks tb_v
    rw [tb_n_congr2 e2 q (by omega), e2 _ q hq]
theorem def_cm4 (hI : IV v) (h4 : kd = 4) (hO : okD v kd tb f l) : cm (defV v kd tb f l) (tn (v 1)) = cm v (tn f) ||| cm v (tn l) ∧ ks (defV v kd tb f l) (tn (v 1)) = ks v (tn f) + ks v (tn l) := by
  obtain ⟨e0, e1, e2, e3, -⟩ := def_e (v := v) (kd := kd) (tb := tb) (f := f) (l := l)
  obtain ⟨-, x, y⟩ := hO.2.2.2.2.2.1 h4
  obtain ⟨-, -, -, xl⟩ := isV_e hI x
  obtain ⟨-, -, -, yl⟩ := isV_e hI y
  constructor
  · unfold cm
    rw [msk_or]
    refine msk_ext (fun c _ => ?_)
    have gen : ∀ G, cs_s (defV v kd tb f l) G (tn (v 1)) c = (G (tn f) c || G (tn l) c) := fun G => by
      unfold cs_s
      rw [e0, if_pos h4, e2, e3]
    show cs_s (defV v kd tb f l) (tb_n _ (cs_s (defV v kd tb f l)) (tn (v 1))) (tn (v 1)) c = _
    rw [gen]
    rw [show tb_n (fun _ => false) _ (tn (v 1)) (tn f) = cs (defV v kd tb f l) (tn f) from tb_lt xl, show tb_n (fun _ => false) _ (tn (v 1)) (tn l) = cs (defV v kd tb f l) (tn l) from tb_lt yl, (def_cs xl).1, (def_cs yl).1]
  · have gen : ∀ G, ks_s (defV v kd tb f l) G (tn (v 1)) = G (tn f) + G (tn l) := fun G => by
      unfold ks_s
      rw [e0, if_pos h4, e2, e3]
    show ks_s (defV v kd tb f l) (tb_n _ (ks_s (defV v kd tb f l)) (tn (v 1))) (tn (v 1)) = _
    rw [gen]
    rw [show tb_n 0 _ (tn (v 1)) (tn f) = ks (defV v kd tb f l) (tn f) from tb_lt xl, show tb_n 0 _ (tn (v 1)) (tn l) = ks (defV v kd tb f l) (tn l) from tb_lt yl, (def_cs xl).2, (def_cs yl).2]
theorem def_cmr (h4 : ¬ kd = 4) : cm (defV v kd tb f l) (tn (v 1)) = msk (fun c => (decide (tn f ≤ c % 12) && decide (c % 12 ≤ tn l)) && (decide (kd = 3) || decide (tn tb = c / 12))) 24 ∧ ks (defV v kd tb f l) (tn (v 1)) = tn l + 1 - tn f := by
  obtain ⟨e0, e1, e2, e3, -⟩ := def_e (v := v) (kd := kd) (tb := tb) (f := f) (l := l)
  constructor
  · unfold cm
    refine msk_ext (fun c _ => ?_)
    show cs_s (defV v kd tb f l) (tb_n _ (cs_s (defV v kd tb f l)) (tn (v 1))) (tn (v 1)) c = _
    unfold cs_s
    rw [e0, if_neg h4, e1, e2, e3]
  · show ks_s (defV v kd tb f l) (tb_n _ (ks_s (defV v kd tb f l)) (tn (v 1))) (tn (v 1)) = _
    unfold ks_s
    rw [e0, if_neg h4, e2, e3]
theorem def_R (hR : RB I b v) (hI : IV v) (hd : tn (v 1) < 8) {J : mj_I} (h1 : ∀ q, q ≠ b → q ≠ b + 7 + tn (v 1) → J q = I q) (hb4 : J b 4 = nI (tn (v 1) + 1)) (hb : ∀ i, i ≠ 4 → J b i = I b i)
    (g0 : J (b + 7 + tn (v 1)) 0 = 1) (g1 : J (b + 7 + tn (v 1)) 1 = kd) (g2 : J (b + 7 + tn (v 1)) 2 = tb) (g3 : J (b + 7 + tn (v 1)) 3 = f) (g4 : J (b + 7 + tn (v 1)) 4 = l)
    (g5 : J (b + 7 + tn (v 1)) 5 = nI (cm (defV v kd tb f l) (tn (v 1)))) (g6 : J (b + 7 + tn (v 1)) 6 = nI (ks (defV v kd tb f l) (tn (v 1)))) (g7 : J (b + 7 + tn (v 1)) 7 = 0) (g8 : J (b + 7 + tn (v 1)) 8 = v 0) (g9 : J (b + 7 + tn (v 1)) 9 = 0) (g10 : J (b + 7 + tn (v 1)) 10 = I (b + 7 + tn (v 1)) 10) : RB J b (defV v kd tb f l) := by
  obtain ⟨n1, n2⟩ := def_1 hI (kd := kd) (tb := tb) (f := f) (l := l)
  obtain ⟨e0, e1, e2, e3, e4, e5, e6, e7, e8⟩ := def_e (v := v) (kd := kd) (tb := tb) (f := f) (l := l)
  obtain ⟨h1', h2', h3', h4', h5'⟩ := hR
  have l0 := hI.1.2
  have w0 : defV v kd tb f l 0 = v 0 := def_o (by omega) (by omega)
  refine ⟨by rw [h1 _ (by omega) (by omega), w0]; exact h1', fun i hi => ?_, fun i hi => by rw [h1 _ (by omega) (by omega), def_o (by omega) (by omega)]; exact h3' i hi, fun j hj => ?_, fun q hq8 => ?_⟩
  · by_cases e : i = 0
    · subst e; rw [hb4]; exact n1.symm
    · rw [hb _ (by omega), def_o (by omega) (by omega)]; exact h2' i hi
  · rw [w0] at hj
    unfold cl
    rw [h1 _ (by omega) (by omega), h1 _ (by omega) (by omega), def_o (by omega) (by omega), def_o (by omega) (by omega), def_o (by omega) (by omega)]
    exact h4' j hj
  · obtain ⟨x1, x2, x3⟩ := h5' q hq8
    rw [n2]
    by_cases e : q = tn (v 1)
    · subst e
      rw [e4]
      refine ⟨g0, ⟨Or.inl g7, fun hh => by omega⟩, fun _ => ?_⟩
      unfold RV
      rw [e0, e1, e2, e3, e5, e6, e7, e8]
      exact ⟨g1, g2, g3, g4, g5, g6, g7, g8, g9, by rw [g10]; exact x2.2 (Nat.le_refl _)⟩
    · rw [h1 _ (by omega) (by omega), def_k e 4 (by decide)]
      refine ⟨x1, ⟨x2.1, fun hh => x2.2 (by omega)⟩, fun he => ?_⟩
      have hlt := hI.ex hq8 he
      obtain ⟨c1, c2⟩ := def_cs (v := v) (kd := kd) (tb := tb) (f := f) (l := l) hlt
      unfold RV cm
      rw [def_k e 0 (by decide), def_k e 1 (by decide), def_k e 2 (by decide), def_k e 3 (by decide), def_k e 5 (by decide), def_k e 6 (by decide), def_k e 7 (by decide), def_k e 8 (by decide), c1, c2]
      exact x3 he
theorem C_X0_addView (hB : mj_isB b) (hR : RB I b v) (hI : IV v) (hd : tn (v 1) < 8) (hO : okD v kd tb f l) : mj_R D_X0_addView [.inr (some b), .inl kd, .inl tb, .inl f, .inl l] (mj_w I) (mj_px (fun r I' => r = some (.inl (nI (tn (v 1)))) ∧ RB I' b (defV v kd tb f l) ∧ Fr b I I')) := by
  have hB' := hB
  obtain ⟨h0, h1, h2, h3, h4, h5, h6, hv, hb⟩ := hB
  have hvk := hv _ hd
  have e1 : I b 4 = nI (tn (v 1)) := by rw [hR.2.1 0 (by decide)]; exact hI.2.1.1
  have e0 : I (b + 1) 2 = v 0 := hR.1
  generalize hk : tn (v 1) = k at *
  refine mj_enter (by decide +kernel) (Nat.le_of_ble_eq_true rfl) ?_
  sorry
end De
