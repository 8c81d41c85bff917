theorem payV_o {v : mv} {k c i : Nat} (h2 : i ≠ 2) (h4 : i ≠ 4) (h5 : i ≠ 5) (g6 : i ≠ 615 + 9 * k + 6) (g7 : i ≠ 615 + 9 * k + 7) (g8 : i ≠ 615 + 9 * k + 8) : payV v k c i = v i := by
  unfold payV
  rw [up_n h5, up_n h4, up_n h2, up_n g8, up_n g7, up_n g6]
/-- the views t 0, t 1, .. paid one after another out of the treasury -/
def pvV (v : mv) (t : Nat → Nat) : Nat → mv
  | 0 => v
  | i + 1 => payV (pvV v t i) (t i) (tn (pvV v t i 2))
def pvN (v : mv) (t : Nat → Nat) : Nat → Nat
  | 0 => 0
  | i + 1 => pvN v t i + (pyD (pvV v t i) (t i) (tn (pvV v t i 2)) + pyA (pvV v t i) (t i) (tn (pvV v t i 2)))
section Pe
variable {v : mv} {t : Nat → Nat}
theorem pv_f (ht : ∀ i, t i < 8) : ∀ i k f, k < 8 → f < 6 → vk (pvV v t i) k f = vk v k f
  | 0, _, _, _, _ => rfl
  | i + 1, k, f, hk, hf => by
    have := ht i
    show payV _ _ _ _ = _
    rw [payV_o (by omega) (by omega) (by omega) (by omega) (by omega) (by omega)]
    exact pv_f ht i k f hk hf
theorem pv_k (ht : ∀ i, t i < 8) {k : Nat} (hk : k < 8) (f : Nat) (hf : f < 9) : ∀ i, (∀ j, j < i → t j ≠ k) → vk (pvV v t i) k f = vk v k f
  | 0, _ => rfl
  | i + 1, h => by
    have := ht i
    have := h i (by omega)
    show payV _ _ _ _ = _
    rw [payV_o (by omega) (by omega) (by omega) (by omega) (by omega) (by omega)]
    exact pv_k ht hk f hf i (fun j hj => h j (by omega))
theorem pv_s (ht : ∀ i, t i < 8) : ∀ i k, k ≠ 2 → k ≠ 4 → k ≠ 5 → k < 615 → pvV v t i k = v k
  | 0, _, _, _, _, _ => rfl
  | i + 1, k, h2, h4, h5, h6 => by
    show payV _ _ _ _ = _
    rw [payV_o h2 h4 h5 (by omega) (by omega) (by omega)]
    exact pv_s ht i k h2 h4 h5 h6
theorem pv_I (ht : ∀ i, t i < 8) (hI : IV v) {n : Nat} (hn : ∀ i, i < n → vk v (t i) 4 = 1) : ∀ i, i ≤ n → IV (pvV v t i)
  | 0, _ => hI
  | i + 1, h => by
    refine payV_I (pv_I ht hI hn i (by omega)) (ht i) ?_ (Nat.le_refl _)
    rw [pv_f ht i _ 4 (ht i) (by decide)]
    exact hn i (by omega)
end Pe
theorem msk_rm : ∀ m, m < 256 → ∀ k, k < 8 → m.testBit k = true → nI m &&& ((1 <<< (nI k &&& 31)) ^^^ (-1)) = nI (m - 2 ^ k) := by decide +kernel
theorem msk_del {p : Nat → Bool} {k : Nat} (hp : p k = true) : ∀ n, k < n → msk (fun q => p q && !decide (q = k)) n + 2 ^ k = msk p n
  | 0, h => absurd h (Nat.not_lt_zero k)
  | n + 1, h => by
    rw [msk, msk]
    by_cases e : k = n
    · subst e
      rw [if_pos hp, if_neg (by simp), msk_ext (q := p) (fun i hi => by simp [show ¬ i = k by omega])]
      rfl
    · have := msk_del hp n (by omega)
      have e2 : (p n && !decide (n = k)) = p n := by simp [show ¬ n = k by omega]
      rw [e2]
      omega
section Pf
variable {I : mj_I} {b : Nat} {v : mv}
theorem C_X0_payEvery (hB : mj_isB b) (hR : RB I b v) (hI : IV v) {n : Nat} {t : Nat → Nat} (ht : ∀ i, t i < 8) (hn : n ≤ 8) (hO : OR v (tn (v 14)) (wt v) n t) : mj_R D_X0_payEvery [.inr (some b)] (mj_w I) (mj_px (fun a I' => a = some (.inl (nI (pvN v t n))) ∧ RB I' b (pvV v t n) ∧ Fr b I I')) := by
  have hB' := hB
  obtain ⟨h0, h1, h2, h3, h4, h5, h6, hv, hb⟩ := hB
  have hte := fun i hi => (OR_mem hO (i := i) hi).2.1
  refine mj_enter (by decide +kernel) (Nat.le_of_ble_eq_true rfl) ?_
  have key : ∀ (s i j : Nat) (p : Nat → Bool) (I' : mj_I) (q4 q5 : Option mj_V), i + s = 8 → j = min i n → (∀ q, q < 8 → (p q = true ↔ ∃ a, j ≤ a ∧ a < n ∧ t a = q)) → RB I' b (pvV v t j) → Fr b I I' → (∀ k, k < 8 → vk v k 4 = 1 → I' (b + 6) k = rk32 v k) →
      mj_J D_X0_payEvery (mj_px (fun a I' => a = some (.inl (nI (pvN v t n))) ∧ RB I' b (pvV v t n) ∧ Fr b I I')) 14 [some (.inr (some b)), some (.inl (nI (msk p 8))), some (.inl (nI (pvN v t j))), some (.inl (nI i)), q4, q5] [] (mj_w I') (0, 0) := by
    intro s
    induction s with
    | zero =>
      intro i j p I' q4 q5 hi hj hp hR' hF hK
      obtain rfl : i = 8 := by omega
      obtain rfl : j = n := by omega
      refine J_ild S_X0_payEvery rfl rfl ?_
      refine J_C S_X0_payEvery rfl ?_
      refine J_cmp S_X0_payEvery rfl (fun c17 => ?_) (fun c17 => False.elim (c17 (by decide)))
      refine J_ild S_X0_payEvery rfl rfl ?_
      refine J_retI S_X0_payEvery rfl ?_
      exact ⟨I', rfl, rfl, hR', hF⟩
    | succ s ih =>
      intro i j p I' q4 q5 hi hj hp hR' hF hK
      have hi8 : i < 8 := by omega
      have hIj : IV (pvV v t j) := pv_I ht hI hte j (by omega)
      have hpe : ∀ k, k < 8 → p k = true → vk v k 4 = 1 := fun k hk h => by
        obtain ⟨a, -, ha, e⟩ := (hp k hk).mp h
        rw [← e]; exact hte a ha
      have hno := C_X0_nextOf (I := I') hB' hI hpe hK
      rcases Nat.lt_or_ge i n with g | g
      · obtain rfl : j = i := by omega
        obtain ⟨t8, t4, t5⟩ := OR_mem hO g
        have e4 : vk (pvV v t j) (t j) 4 = 1 := by rw [pv_f ht j _ 4 t8 (by decide)]; exact t4
        have e5 : vk (pvV v t j) (t j) 5 = 0 := by rw [pv_f ht j _ 5 t8 (by decide)]; exact t5
        have hfy := fun I2 (h : I2 = I') => C_X0_find_y (I := I2) hB' (by rw [h]; exact hR') hIj t8 e4
        have h2 := hIj.2.2.1
        have hpo := C_X0_payOne hB' hR' hIj t8 e4 e5 h2.2
        rw [Nat.min_self] at hpo
        have eb : I' b 5 = nI (tn (pvV v t j 2)) := by rw [hR'.2.1 1 (by decide)]; exact h2.1
        have hpt : p (t j) = true := (hp (t j) t8).mpr ⟨j, Nat.le_refl j, g, rfl⟩
        have em : nI (msk p 8) &&& ((1 <<< (nI (t j) &&& 31)) ^^^ (-1)) = nI (msk (fun q => p q && !decide (q = t j)) 8) := by
          rw [msk_rm _ (msk_lt p 8) _ t8 (by rw [msk_bit, hpt]; simp [t8])]
          have := msk_del hpt 8 t8
          rw [show msk p 8 - 2 ^ t j = msk (fun q => p q && !decide (q = t j)) 8 by omega]
        have inj : ∀ a, a < n → t a = t j → a = j := fun a ha e => by
          rcases Nat.lt_trichotomy a j with g1 | g1 | g1
          · have := hO.1 a j g1 g
            rw [e] at this; exact (lx_ir this).elim
          · exact g1
          · have := hO.1 j a g1 ha
            rw [e] at this; exact (lx_ir this).elim
        have hyt : ∀ y, ((y = (-1 : Int32) ∧ ∀ q, q < 8 → p q = false) ∨ ∃ k, y = nI k ∧ k < 8 ∧ p k = true ∧ ∀ q, q < 8 → p q = true → q ≠ k → lx v (tn (v 14)) k q) → y = nI (t j) := by
          rintro y (⟨-, h⟩ | ⟨k, rfl, hk, hpk, h⟩)
          · rw [h _ t8] at hpt; exact absurd hpt (by decide)
          · obtain ⟨a, ha, han, rfl⟩ := (hp k hk).mp hpk
            by_cases e : a = j
            · rw [e]
            · have l1 := hO.1 j a (by omega) han
              have l2 := h (t j) t8 hpt (fun c => e (inj a han c.symm))
              exact (lx_as l1 l2).elim
        have nx := fun (I2 : mj_I) (q4 q5 : Option mj_V) (hR2 : RB I2 b (pvV v t (j + 1))) (hF2 : Fr b I' I2) (h6 : I2 (b + 6) = I' (b + 6)) => ih (j + 1) (j + 1) (fun q => p q && !decide (q = t j)) I2 q4 q5 (by omega) (by omega) (fun q hq => by
          simp only [Bool.and_eq_true, Bool.not_eq_true', decide_eq_false_iff_not]
          rw [hp q hq]
          constructor
          · rintro ⟨⟨a, h1, h2, h3⟩, hne⟩
            refine ⟨a, ?_, h2, h3⟩
            by_cases e : a = j
            · rw [e] at h3; exact absurd h3.symm hne
            · omega
          · rintro ⟨a, h1, h2, h3⟩
            refine ⟨⟨a, by omega, h2, h3⟩, fun e => ?_⟩
            have := inj a h2 (by rw [h3, e])
            omega) hR2 (fr_tr hF hF2) (fun k hk he => by rw [h6]; exact hK k hk he)
        have sub : mj_J D_X0_payEvery (mj_px (fun a I' => a = some (.inl (nI (pvN v t n))) ∧ RB I' b (pvV v t n) ∧ Fr b I I')) 25 [some (.inr (some b)), some (.inl (nI (msk p 8))), some (.inl (nI (pvN v t j))), some (.inl (nI j)), q4, q5] [.inl (nI (t j))] (mj_w I') (0, 0) := by
          refine J_ist S_X0_payEvery rfl rfl ?_
          refine J_ald S_X0_payEvery rfl rfl ?_
          refine J_ild S_X0_payEvery rfl rfl ?_
          refine J_CVx S_X0_payEvery rfl rfl (by assumption) (by omega) (by simp) (C_X0_find_y hB' hR' hIj t8 e4) rfl ?_
          refine J_ast S_X0_payEvery rfl rfl ?_
          refine J_ald S_X0_payEvery rfl rfl ?_
          refine J_nuS S_X0_payEvery rfl ?_
          refine J_ild S_X0_payEvery rfl rfl ?_
          refine J_ald S_X0_payEvery rfl rfl ?_
          refine J_ald S_X0_payEvery rfl rfl ?_
          refine J_ald S_X0_payEvery rfl rfl ?_
          skip
          refine J_getI S_X0_payEvery rfl (by assumption) (by omega) ?_
          rw [eb]
          refine J_CV S_X0_payEvery rfl rfl (by assumption) (by omega) (by simp) (hpo) ?_
          rintro _ _ ⟨I2, rfl, rfl, hR2, hF2, h62⟩
          refine J_bin S_X0_payEvery rfl ?_
          refine J_ist S_X0_payEvery rfl rfl ?_
          refine J_ild S_X0_payEvery rfl rfl ?_
          refine J_C S_X0_payEvery rfl ?_
          refine J_ild S_X0_payEvery rfl rfl ?_
          refine J_bin S_X0_payEvery rfl ?_
          refine J_C S_X0_payEvery rfl ?_
          refine J_bin S_X0_payEvery rfl ?_
          refine J_bin S_X0_payEvery rfl ?_
          refine J_ist S_X0_payEvery rfl rfl ?_
          refine J_inc S_X0_payEvery rfl rfl rfl ?_
          refine J_goto S_X0_payEvery rfl ?_
          rw [em, nI_add, ← nI_succ]
          exact nx I2 _ _ hR2 hF2 h62
        refine J_ild S_X0_payEvery rfl rfl ?_
        refine J_C S_X0_payEvery rfl ?_
        refine J_cmp S_X0_payEvery rfl (fun c17 => False.elim (nI_ge (b := 8) hi8 (by decide) c17)) (fun c17 => ?_)
        refine J_ald S_X0_payEvery rfl rfl ?_
        refine J_ild S_X0_payEvery rfl rfl ?_
        refine J_CV S_X0_payEvery rfl rfl (by assumption) (by omega) (by simp) (hno) ?_
        rintro _ _ ⟨_, rfl, y, rfl, rfl, hres⟩
        have hy := hyt y hres
        subst hy
        exact sub
      · obtain rfl : j = n := by omega
        have g := ih (i + 1) j p I' (some (.inl (-1))) (some (.inr none)) (by omega) (by omega) hp hR' hF hK
        have hnn : ∀ q, q < 8 → p q = false := fun q hq => by
          cases e : p q
          · rfl
          · obtain ⟨a, h1, h2, -⟩ := (hp q hq).mp e
            omega
        have hfn := C_X0_find (I := I') (v := pvV v t j) hB' (fun k hk => (hR'.2.2.2.2 k hk).1) (fun k hk => hIj.b01 hk) (x := -1)
        rw [show isV (pvV v t j) (-1) = false by unfold isV; rw [decide_eq_false (by decide)]; rfl] at hfn
        have sub : mj_J D_X0_payEvery (mj_px (fun a I' => a = some (.inl (nI (pvN v t j))) ∧ RB I' b (pvV v t j) ∧ Fr b I I')) 25 [some (.inr (some b)), some (.inl (nI (msk p 8))), some (.inl (nI (pvN v t j))), some (.inl (nI i)), q4, q5] [.inl (-1)] (mj_w I') (0, 0) := by
          refine J_ist S_X0_payEvery rfl rfl ?_
          refine J_ald S_X0_payEvery rfl rfl ?_
          refine J_ild S_X0_payEvery rfl rfl ?_
          refine J_CVx S_X0_payEvery rfl rfl (by assumption) (by omega) (by simp) (hfn) rfl ?_
          refine J_ast S_X0_payEvery rfl rfl ?_
          refine J_ald S_X0_payEvery rfl rfl ?_
          refine J_nuN S_X0_payEvery rfl ?_
          refine J_inc S_X0_payEvery rfl rfl rfl ?_
          refine J_goto S_X0_payEvery rfl ?_
          rw [← nI_succ]
          exact g
        refine J_ild S_X0_payEvery rfl rfl ?_
        refine J_C S_X0_payEvery rfl ?_
        refine J_cmp S_X0_payEvery rfl (fun c17 => False.elim (nI_ge (b := 8) hi8 (by decide) c17)) (fun c17 => ?_)
        refine J_ald S_X0_payEvery rfl rfl ?_
        refine J_ild S_X0_payEvery rfl rfl ?_
        refine J_CV S_X0_payEvery rfl rfl (by assumption) (by omega) (by simp) (hno) ?_
        rintro _ _ ⟨_, rfl, y, rfl, rfl, hres⟩
        rcases hres with ⟨rfl, -⟩|⟨k, -, hk, hpk, -⟩
        · exact sub
        · exact absurd hpk (by rw [hnn k hk]; decide)
  have hso := fun I2 (h : RB I2 b v) => C_X0_setOf (I := I2) hB' h hI (w := 2) (by decide)
  refine J_ald S_X0_payEvery rfl rfl ?_
  refine J_CV S_X0_payEvery rfl rfl (by assumption) (by omega) (by simp) (C_X0_noteRanks hB' hR hI) ?_
  rintro _ _ ⟨I2, rfl, rfl, hF2, hK2⟩
  refine J_ald S_X0_payEvery rfl rfl ?_
  refine J_C S_X0_payEvery rfl ?_
  refine J_CVx S_X0_payEvery rfl rfl (by assumption) (by omega) (by simp) (hso _ (RB_rk hR hF2)) rfl ?_
  refine J_ist S_X0_payEvery rfl rfl ?_
  refine J_C S_X0_payEvery rfl ?_
  refine J_ist S_X0_payEvery rfl rfl ?_
  refine J_C S_X0_payEvery rfl ?_
  refine J_ist S_X0_payEvery rfl rfl ?_
  refine key 8 0 0 _ I2 none none rfl (by omega) (fun q hq => ?_) (RB_rk hR hF2) (fun o ho => hF2 o (by omega)) hK2
  have hq2 := hO.2 q
  unfold wt at hq2
  unfold bel
  rw [decide_eq_true hq, Bool.true_and] at hq2
  rw [← show (∃ i, i < n ∧ t i = q) ↔ (∃ a, 0 ≤ a ∧ a < n ∧ t a = q) from ⟨fun ⟨a, h1, h2⟩ => ⟨a, by omega, h1, h2⟩, fun ⟨a, _, h1, h2⟩ => ⟨a, h1, h2⟩⟩, ← hq2]
  exact Iff.rfl
end Pf
