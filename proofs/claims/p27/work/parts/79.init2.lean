theorem xc_6 {k : Nat} (h : 6 ≤ k) : mj_xc 2 k = 0 := by
  show [(1 : Int32), 2, 30, 5, 0, 0].getD k 0 = 0
  rw [List.getD_eq_getElem?_getD, List.getElem?_eq_none (by simpa using h)]
  rfl
section In2
variable {F : mj_F} {I : mj_I} {o : Nat}
/-- the books being made, i views there -/
def BV (F : mj_F) (I : mj_I) (o i : Nat) (Fx : mj_F) (Ix : mj_I) : Prop :=
  (∀ q, q < o → Fx q = F q ∧ Ix q = I q) ∧ (∀ q, o < q → q < o + 7 + i → q ≠ o + 4 → q ≠ o + 5 → GC Fx Ix q) ∧ ((∀ k, k < 4 → Fx o k = mj_rc 0 o k) ∧ ∀ k, Ix o k = 0) ∧ ((∀ j, j < i → Fx (o + 4) j = mj_rc 13 (o + 4) j) ∧ ∀ k, Ix (o + 4) k = 0) ∧ ∀ k, Ix (o + 5) k = 0
theorem I_X0 (hB : mj_isB o) (hI : ∀ k, I o k = 0) : mj_R D_X0_init [.inr (some o)] (o + 1, F, I) (CP o (o + 15) F I) := by
  obtain ⟨h0, h1, h2, h3, h4, h5, h6, hv, hb⟩ := hB
  have h7 := I_X2 (F := mj_nF F (o + 1)) (I := mj_nI I (o + 1)) h1 h2 h3 (by omega) (fun k => nI_s)
  refine mj_enter (by decide +kernel) (Nat.le_of_ble_eq_true rfl) ?_
  -- the settings
  have key2 : ∀ (s i : Nat) (Fx : mj_F) (Ix : mj_I), i + s = 6 → (∀ q, q < o → Fx q = F q ∧ Ix q = I q) → (∀ q, o ≤ q → q < o + 15 → q ≠ o + 5 → GC Fx Ix q) → Fx o 2 = some (o + 5) → (∀ k, k < i → Ix (o + 5) k = mj_xc 2 k) → (∀ k, i ≤ k → Ix (o + 5) k = 0) →
      mj_J D_X0_init (CP o (o + 15) F I) 72 [some (.inr (some o)), some (.inl (nI i))] [] (o + 15, Fx, Ix) (14, 513) := by
    intro s
    induction s with
    | zero =>
      intro i Fx Ix hi a b e2 c1 c2
      obtain rfl : i = 6 := by omega
      have fin : CP o (o + 15) F I none (o + 15, Fx, Ix) := by
        refine ⟨rfl, _, _, rfl, a, fun q g1 g2 => ?_⟩
        by_cases e : q = o + 5
        · subst e
          refine gc_mk h5 (fun k hk hr => ?_) (fun k => ?_)
          · rcases hr with g | g
            · exact absurd g (by decide)
            · cases g
          · show Ix (o + 5) k = mj_xc 2 k
            by_cases hk : k < 6
            · exact c1 k hk
            · rw [c2 k (by omega), xc_6 (by omega)]
        · exact b q g1 g2 e
      refine J_ild S_X0_init rfl rfl ?_
      refine J_ald S_X0_init rfl rfl ?_
      refine JO_getR S_X0_init rfl (by assumption) (by omega) (e2) ?_
      refine JO_len S_X0_init rfl (by assumption) (by omega) (by decide) ?_
      refine J_cmp S_X0_init rfl (fun c78 => ?_) (fun c78 => False.elim (c78 (Int32.le_refl _)))
      refine J_retV S_X0_init rfl ?_
      exact fin
    | succ s ih =>
      intro i Fx Ix hi a b e2 c1 c2
      have hi6 : i < 6 := by omega
      have q1 : ∀ k, k < i + 1 → mj_up Ix (o + 5) i (mj_xc 2 i) (o + 5) k = mj_xc 2 k := by
        intro k hk
        rw [mj_up_eq]
        by_cases e : k = i
        · rw [e, up_s]
        · rw [up_n e]; exact c1 k (by omega)
      have q2 : ∀ k, i + 1 ≤ k → mj_up Ix (o + 5) i (mj_xc 2 i) (o + 5) k = 0 := by
        intro k hk
        rw [mj_up_eq, up_n (by omega)]; exact c2 k (by omega)
      refine J_ild S_X0_init rfl rfl ?_
      refine J_ald S_X0_init rfl rfl ?_
      refine JO_getR S_X0_init rfl (by assumption) (by omega) (e2) ?_
      refine JO_len S_X0_init rfl (by assumption) (by omega) (by decide) ?_
      refine J_cmp S_X0_init rfl (fun c78 => False.elim (nI_ge hi6 (by omega) c78)) (fun c78 => ?_)
      refine J_ild S_X0_init rfl rfl ?_
      refine J_gets S_X0_init rfl ?_
      refine J_xlen S_X0_init rfl ?_
      refine J_cmp S_X0_init rfl (fun c86 => False.elim (nI_ge hi6 (by omega) c86)) (fun c86 => ?_)
      refine J_ald S_X0_init rfl rfl ?_
      refine JO_getR S_X0_init rfl (by assumption) (by omega) (e2) ?_
      refine J_ild S_X0_init rfl rfl ?_
      refine J_gets S_X0_init rfl ?_
      refine J_ild S_X0_init rfl rfl ?_
      refine J_xald S_X0_init rfl rfl hi6 ?_
      refine JO_iast S_X0_init rfl (by assumption) (by omega) (j := i) rfl hi6 (by decide) ?_
      refine J_inc S_X0_init rfl rfl rfl ?_
      refine J_goto S_X0_init rfl ?_
      rw [← nI_succ]
      exact ih (i + 1) Fx (mj_up Ix (o + 5) i (mj_xc 2 i)) (by omega) (fun q hq => ⟨(a q hq).1, by rw [mj_up_ne (by omega)]; exact (a q hq).2⟩) (fun q g1 g2 g3 => gc_fr (b q g1 g2 g3) rfl (mj_up_ne g3)) e2 q1 q2
  -- the views
  have key1 : ∀ (s i : Nat) (Fx : mj_F) (Ix : mj_I), i + s = 8 → BV F I o i Fx Ix → mj_J D_X0_init (CP o (o + 15) F I) 42 [some (.inr (some o)), some (.inl (nI i))] [] (o + 7 + i, Fx, Ix) (6 + i, 425 + 11 * i) := by
    intro s
    induction s with
    | zero =>
      intro i Fx Ix hi hv2
      obtain rfl : i = 8 := by omega
      obtain ⟨a, b, c, d, e⟩ := hv2
      have e1 : Fx o 1 = some (o + 4) := c.1 1 (by decide)
      have hg : ∀ q, o ≤ q → q < o + 15 → q ≠ o + 5 → GC Fx Ix q := by
        intro q g1 g2 g3
        by_cases q1 : q = o
        · subst q1
          refine gc_mk h0 (fun k hk hr => ?_) (fun k => by rw [c.2 k]; exact i0_z)
          rcases hr with g | g
          · exact absurd g (by decide)
          · exact c.1 k (of_decide_eq_true g)
        · by_cases q2 : q = o + 4
          · subst q2
            exact gc_mk h4 (fun k hk _ => d.1 k hk) (fun k => by rw [d.2 k]; exact i0_z)
          · exact b q (by omega) (by omega) q2 g3
      refine J_ild S_X0_init rfl rfl ?_
      refine J_ald S_X0_init rfl rfl ?_
      refine JO_getR S_X0_init rfl (by assumption) (by omega) (e1) ?_
      refine JO_len S_X0_init rfl (by assumption) (by omega) (by decide) ?_
      refine J_cmp S_X0_init rfl (fun c48 => ?_) (fun c48 => False.elim (c48 (Int32.le_refl _)))
      refine J_C S_X0_init rfl ?_
      refine J_ist S_X0_init rfl rfl ?_
      exact key2 6 0 Fx Ix rfl a hg (c.1 2 (by decide)) (fun k hk => absurd hk (Nat.not_lt_zero k)) (fun k _ => e k)
    | succ s ih =>
      intro i Fx Ix hi hv2
      have hi8 : i < 8 := by omega
      obtain ⟨a, b, c, d, e⟩ := hv2
      have e1 : Fx o 1 = some (o + 4) := c.1 1 (by decide)
      have hvi := hv i hi8
      have h8 := I_X8 (F := mj_nF Fx (o + 7 + i)) (I := mj_nI Ix (o + 7 + i)) hvi (by omega) (fun k => nI_s)
      have nx : ∀ (F1 : mj_F) (I1 : mj_I), (∀ q, q < o + 7 + i → F1 q = mj_nF Fx (o + 7 + i) q ∧ I1 q = mj_nI Ix (o + 7 + i) q) → (∀ q, o + 7 + i ≤ q → q < o + 7 + i + 1 → GC F1 I1 q) → BV F I o (i + 1) (mj_uF F1 (o + 4) i (some (o + 7 + i))) I1 := by
        intro F1 I1 p1 p2
        have f1 : ∀ q, q < o + 7 + i → F1 q = Fx q := fun q hq => by rw [(p1 q hq).1, nF_n (by omega)]
        have i1 : ∀ q, q < o + 7 + i → I1 q = Ix q := fun q hq => by rw [(p1 q hq).2, nI_n (by omega)]
        refine ⟨fun q hq => ⟨by rw [mj_uF_ne (by omega), f1 q (by omega)]; exact (a q hq).1, by rw [i1 q (by omega)]; exact (a q hq).2⟩, fun q g1 g2 g3 g4 => ?_, ⟨fun k hk => by rw [mj_uF_ne (by omega), f1 o (by omega)]; exact c.1 k hk, fun k => by rw [i1 o (by omega)]; exact c.2 k⟩, ⟨fun j hj => ?_, fun k => by rw [i1 _ (by omega)]; exact d.2 k⟩, fun k => by rw [i1 _ (by omega)]; exact e k⟩
        · by_cases q1 : q < o + 7 + i
          · exact gc_fr (b q g1 q1 g3 g4) (by rw [mj_uF_ne g3, f1 q q1]) (i1 q q1)
          · exact gc_fr (p2 q (by omega) (by omega)) (mj_uF_ne g3) rfl
        · by_cases q1 : j = i
          · subst q1
            rw [uF_s]
            exact congrArg some (by omega)
          · rw [uF_k q1, f1 _ (by omega)]
            exact d.1 j (by omega)
      refine J_ild S_X0_init rfl rfl ?_
      refine J_ald S_X0_init rfl rfl ?_
      refine JO_getR S_X0_init rfl (by assumption) (by omega) (e1) ?_
      refine JO_len S_X0_init rfl (by assumption) (by omega) (by decide) ?_
      refine J_cmp S_X0_init rfl (fun c48 => False.elim (nI_ge hi8 (by omega) c48)) (fun c48 => ?_)
      refine J_ald S_X0_init rfl rfl ?_
      refine JO_getR S_X0_init rfl (by assumption) (by omega) (e1) ?_
      refine J_ild S_X0_init rfl rfl ?_
      refine JO_new S_X0_init rfl (by assumption) (by omega) (by omega) (by omega) ?_
      refine J_dup S_X0_init rfl ?_
      refine JO_CI (mc := 0) (ms := 0) S_X0_init rfl rfl rfl rfl (by simp) (by omega) (by omega) (h8) ?_
      rintro _ _ ⟨rfl, F1, I1, rfl, p1, p2⟩
      refine JO_aast S_X0_init rfl (by assumption) (by omega) (by assumption) (by omega) (j := i) rfl hi8 (by decide) ?_
      refine J_inc S_X0_init rfl rfl rfl ?_
      refine J_goto S_X0_init rfl ?_
      rw [← nI_succ]
      exact Jz (by omega) (by omega) (ih (i + 1) _ _ (by omega) (nx F1 I1 p1 p2))
  have st : ∀ (F1 : mj_F) (I1 : mj_I), (∀ q, q < o + 1 → F1 q = mj_nF F (o + 1) q ∧ I1 q = mj_nI I (o + 1) q) → (∀ q, o + 1 ≤ q → q < o + 1 + 3 → GC F1 I1 q) → ∀ (F2 : mj_F) (I2 : mj_I), F2 = mj_uF (mj_nF (mj_uF (mj_nF (mj_uF (mj_nF (mj_uF F1 o 0 (some (o + 1))) (o + 1 + 3)) o 1 (some (o + 1 + 3))) (o + 1 + 3 + 1)) o 2 (some (o + 1 + 3 + 1))) (o + 1 + 3 + 1 + 1)) o 3 (some (o + 1 + 3 + 1 + 1)) → I2 = mj_nI (mj_nI (mj_nI I1 (o + 1 + 3)) (o + 1 + 3 + 1)) (o + 1 + 3 + 1 + 1) → BV F I o 0 F2 I2 := by
    rintro F1 I1 p1 p2 F2 I2 rfl rfl
    refine ⟨fun q hq => ⟨?_, ?_⟩, fun q g1 g2 g3 g4 => ?_, ⟨fun k hk => ?_, fun k => ?_⟩, ⟨fun j hj => absurd hj (Nat.not_lt_zero j), fun k => ?_⟩, fun k => ?_⟩
    · rw [mj_uF_ne (by omega), nF_n (by omega), mj_uF_ne (by omega), nF_n (by omega), mj_uF_ne (by omega), nF_n (by omega), mj_uF_ne (by omega), (p1 q (by omega)).1, nF_n (by omega)]
    · rw [nI_n (by omega), nI_n (by omega), nI_n (by omega), (p1 q (by omega)).2, nI_n (by omega)]
    · by_cases q1 : q = o + 1 + 3 + 1 + 1
      · subst q1
        exact gc_row h6 (by decide) (fun k => nI_s)
      · exact gc_fr (p2 q (by omega) (by omega)) (by rw [mj_uF_ne (by omega), nF_n (by omega), mj_uF_ne (by omega), nF_n (by omega), mj_uF_ne (by omega), nF_n (by omega), mj_uF_ne (by omega)]) (by rw [nI_n (by omega), nI_n (by omega), nI_n (by omega)])
    · rcases (show k = 0 ∨ k = 1 ∨ k = 2 ∨ k = 3 by omega) with rfl | rfl | rfl | rfl
      · rw [uF_k (by decide), nF_n (by omega), uF_k (by decide), nF_n (by omega), uF_k (by decide), nF_n (by omega), uF_s]; rfl
      · rw [uF_k (by decide), nF_n (by omega), uF_k (by decide), nF_n (by omega), uF_s]; rfl
      · rw [uF_k (by decide), nF_n (by omega), uF_s]; rfl
      · rw [uF_s]; rfl
    · rw [nI_n (by omega), nI_n (by omega), nI_n (by omega), (p1 o (by omega)).2, nI_n (by omega)]; exact hI k
    · rw [nI_n (by omega), nI_n (by omega)]; exact nI_s
    · rw [nI_n (by omega)]; exact nI_s
  refine J_ald S_X0_init rfl rfl ?_
  refine JO_obj S_X0_init rfl (by simp) ?_
  refine J_ald S_X0_init rfl rfl ?_
  refine JO_new S_X0_init rfl (by assumption) (by omega) (by omega) (by omega) ?_
  refine J_dup S_X0_init rfl ?_
  refine JO_CI (mc := 2) (ms := 400) S_X0_init rfl rfl rfl rfl (by simp) (by omega) (by omega) (h7) ?_
  rintro _ _ ⟨rfl, F1, I1, rfl, p1, p2⟩
  refine JO_putR S_X0_init rfl (by assumption) (by omega) ?_
  refine J_ald S_X0_init rfl rfl ?_
  refine J_C S_X0_init rfl ?_
  refine JO_newR S_X0_init rfl h4 (by omega) (by decide) (by omega) (by omega) ?_
  refine JO_putR S_X0_init rfl (by assumption) (by omega) ?_
  refine J_ald S_X0_init rfl rfl ?_
  refine J_C S_X0_init rfl ?_
  refine JO_newR S_X0_init rfl h5 (by omega) (by decide) (by omega) (by omega) ?_
  refine JO_putR S_X0_init rfl (by assumption) (by omega) ?_
  refine J_ald S_X0_init rfl rfl ?_
  refine J_C S_X0_init rfl ?_
  refine JO_newR S_X0_init rfl h6 (by omega) (by decide) (by omega) (by omega) ?_
  refine JO_putR S_X0_init rfl (by assumption) (by omega) ?_
  refine J_C S_X0_init rfl ?_
  refine J_ist S_X0_init rfl rfl ?_
  exact Jz (by omega) (by omega) (key1 8 0 _ _ rfl (st F1 I1 p1 p2 _ _ rfl rfl))
/-- a state being made, i slots there -/
def SV (F : mj_F) (I : mj_I) (o i : Nat) (Fx : mj_F) (Ix : mj_I) : Prop :=
  (∀ q, q < o → Fx q = F q ∧ Ix q = I q) ∧ (∀ q, o < q → q < o + 18 + 15 * i → q ≠ o + 16 → GC Fx Ix q) ∧ ((∀ k, k < 3 → Fx o k = mj_rc 5 o k) ∧ ∀ k, Ix o k = 0) ∧ ((∀ j, j < i → Fx (o + 16) j = mj_rc 14 (o + 16) j) ∧ ∀ k, Ix (o + 16) k = 0)
theorem I_X5 (hS : mj_isS o) (hI : ∀ k, I o k = 0) : mj_R D_X5_init [.inr (some o)] (o + 1, F, I) (CP o (o + 48) F I) := by
  obtain ⟨h0, h1, h2, h3, h4, hb⟩ := hS
  have hb1 := h1.1
  have h7 := I_X0 (F := mj_nF F (o + 1)) (I := mj_nI I (o + 1)) h1 (fun k => nI_s)
  refine mj_enter (by decide +kernel) (Nat.le_of_ble_eq_true rfl) ?_
  have key1 : ∀ (s i : Nat) (Fx : mj_F) (Ix : mj_I), i + s = 2 → SV F I o i Fx Ix → mj_J D_X5_init (CP o (o + 48) F I) 32 [some (.inr (some o)), some (.inl (nI i))] [] (o + 18 + 15 * i, Fx, Ix) (17 + 15 * i, 529 + 525 * i) := by
    intro s
    induction s with
    | zero =>
      intro i Fx Ix hi hv2
      obtain rfl : i = 2 := by omega
      obtain ⟨a, b, c, d⟩ := hv2
      have e1 : Fx o 1 = some (o + 16) := c.1 1 (by decide)
      have fin : CP o (o + 48) F I none (o + 48, Fx, Ix) := by
        refine ⟨rfl, _, _, rfl, a, fun q g1 g2 => ?_⟩
        by_cases q1 : q = o
        · subst q1
          exact gc_mk h0 (fun k hk _ => c.1 k hk) (fun k => by rw [c.2 k]; exact i0_z)
        · by_cases q2 : q = o + 16
          · subst q2
            exact gc_mk h2 (fun k hk _ => d.1 k hk) (fun k => by rw [d.2 k]; exact i0_z)
          · exact b q (by omega) (by omega) q2
      refine J_ild S_X5_init rfl rfl ?_
      refine J_ald S_X5_init rfl rfl ?_
      refine JO_getR S_X5_init rfl (by assumption) (by omega) (e1) ?_
      refine JO_len S_X5_init rfl (by assumption) (by omega) (by decide) ?_
      refine J_cmp S_X5_init rfl (fun c38 => ?_) (fun c38 => False.elim (c38 (Int32.le_refl _)))
      refine J_retV S_X5_init rfl ?_
      exact fin
    | succ s ih =>
      intro i Fx Ix hi hv2
      have hi2 : i < 2 := by omega
      obtain ⟨a, b, c, d⟩ := hv2
      have e1 : Fx o 1 = some (o + 16) := c.1 1 (by decide)
      have hBi := h4 i hi2
      rw [show o + 16 + 2 + 15 * i = o + 18 + 15 * i by omega] at hBi
      have hBi0 := hBi.1
      have h8 := I_X0 (F := mj_nF Fx (o + 18 + 15 * i)) (I := mj_nI Ix (o + 18 + 15 * i)) hBi (fun k => nI_s)
      have nx : ∀ (F1 : mj_F) (I1 : mj_I), (∀ q, q < o + 18 + 15 * i → F1 q = mj_nF Fx (o + 18 + 15 * i) q ∧ I1 q = mj_nI Ix (o + 18 + 15 * i) q) → (∀ q, o + 18 + 15 * i ≤ q → q < o + 18 + 15 * i + 15 → GC F1 I1 q) → SV F I o (i + 1) (mj_uF F1 (o + 16) i (some (o + 18 + 15 * i))) I1 := by
        intro F1 I1 p1 p2
        have f1 : ∀ q, q < o + 18 + 15 * i → F1 q = Fx q := fun q hq => by rw [(p1 q hq).1, nF_n (by omega)]
        have i1 : ∀ q, q < o + 18 + 15 * i → I1 q = Ix q := fun q hq => by rw [(p1 q hq).2, nI_n (by omega)]
        refine ⟨fun q hq => ⟨by rw [mj_uF_ne (by omega), f1 q (by omega)]; exact (a q hq).1, by rw [i1 q (by omega)]; exact (a q hq).2⟩, fun q g1 g2 g3 => ?_, ⟨fun k hk => by rw [mj_uF_ne (by omega), f1 o (by omega)]; exact c.1 k hk, fun k => by rw [i1 o (by omega)]; exact c.2 k⟩, ⟨fun j hj => ?_, fun k => by rw [i1 _ (by omega)]; exact d.2 k⟩⟩
        · by_cases q1 : q < o + 18 + 15 * i
          · exact gc_fr (b q g1 q1 g3) (by rw [mj_uF_ne g3, f1 q q1]) (i1 q q1)
          · exact gc_fr (p2 q (by omega) (by omega)) (mj_uF_ne g3) rfl
        · by_cases q1 : j = i
          · subst q1
            rw [uF_s]
            exact congrArg some (by omega)
          · rw [uF_k q1, f1 _ (by omega)]
            exact d.1 j (by omega)
      refine J_ild S_X5_init rfl rfl ?_
      refine J_ald S_X5_init rfl rfl ?_
      refine JO_getR S_X5_init rfl (by assumption) (by omega) (e1) ?_
      refine JO_len S_X5_init rfl (by assumption) (by omega) (by decide) ?_
      refine J_cmp S_X5_init rfl (fun c38 => False.elim (nI_ge hi2 (by omega) c38)) (fun c38 => ?_)
      refine J_ald S_X5_init rfl rfl ?_
      refine JO_getR S_X5_init rfl (by assumption) (by omega) (e1) ?_
      refine J_ild S_X5_init rfl rfl ?_
      refine JO_new S_X5_init rfl (by assumption) (by omega) (by omega) (by omega) ?_
      refine J_dup S_X5_init rfl ?_
      refine JO_CI (mc := 14) (ms := 513) S_X5_init rfl rfl rfl rfl (by simp) (by omega) (by omega) (h8) ?_
      rintro _ _ ⟨rfl, F1, I1, rfl, p1, p2⟩
      refine JO_aast S_X5_init rfl (by assumption) (by omega) (by assumption) (by omega) (j := i) rfl hi2 (by decide) ?_
      refine J_inc S_X5_init rfl rfl rfl ?_
      refine J_goto S_X5_init rfl ?_
      rw [← nI_succ]
      exact Jz (by omega) (by omega) (ih (i + 1) _ _ (by omega) (nx F1 I1 p1 p2))
  have st : ∀ (F1 : mj_F) (I1 : mj_I), (∀ q, q < o + 1 → F1 q = mj_nF F (o + 1) q ∧ I1 q = mj_nI I (o + 1) q) → (∀ q, o + 1 ≤ q → q < o + 1 + 15 → GC F1 I1 q) → ∀ (F2 : mj_F) (I2 : mj_I), F2 = mj_uF (mj_nF (mj_uF (mj_nF (mj_uF F1 o 0 (some (o + 1))) (o + 1 + 15)) o 1 (some (o + 1 + 15))) (o + 1 + 15 + 1)) o 2 (some (o + 1 + 15 + 1)) → I2 = mj_nI (mj_nI I1 (o + 1 + 15)) (o + 1 + 15 + 1) → SV F I o 0 F2 I2 := by
    rintro F1 I1 p1 p2 F2 I2 rfl rfl
    refine ⟨fun q hq => ⟨?_, ?_⟩, fun q g1 g2 g3 => ?_, ⟨fun k hk => ?_, fun k => ?_⟩, ⟨fun j hj => absurd hj (Nat.not_lt_zero j), fun k => ?_⟩⟩
    · rw [mj_uF_ne (by omega), nF_n (by omega), mj_uF_ne (by omega), nF_n (by omega), mj_uF_ne (by omega), (p1 q (by omega)).1, nF_n (by omega)]
    · rw [nI_n (by omega), nI_n (by omega), (p1 q (by omega)).2, nI_n (by omega)]
    · by_cases q1 : q = o + 1 + 15 + 1
      · subst q1
        refine gc_mk h3 (fun k hk hr => ?_) (fun k => by rw [nI_s]; exact i0_z)
        rcases hr with g | g
        · exact absurd g (by decide)
        · cases g
      · exact gc_fr (p2 q (by omega) (by omega)) (by rw [mj_uF_ne (by omega), nF_n (by omega), mj_uF_ne (by omega), nF_n (by omega), mj_uF_ne (by omega)]) (by rw [nI_n (by omega), nI_n (by omega)])
    · rcases (show k = 0 ∨ k = 1 ∨ k = 2 by omega) with rfl | rfl | rfl
      · rw [uF_k (by decide), nF_n (by omega), uF_k (by decide), nF_n (by omega), uF_s]; rfl
      · rw [uF_k (by decide), nF_n (by omega), uF_s]; rfl
      · rw [uF_s]; rfl
    · rw [nI_n (by omega), nI_n (by omega), (p1 o (by omega)).2, nI_n (by omega)]; exact hI k
    · rw [nI_n (by omega)]; exact nI_s
  refine J_ald S_X5_init rfl rfl ?_
  refine JO_obj S_X5_init rfl (by simp) ?_
  refine J_ald S_X5_init rfl rfl ?_
  refine JO_new S_X5_init rfl (by assumption) (by omega) (by omega) (by omega) ?_
  refine J_dup S_X5_init rfl ?_
  refine JO_CI (mc := 14) (ms := 513) S_X5_init rfl rfl rfl rfl (by simp) (by omega) (by omega) (h7) ?_
  rintro _ _ ⟨rfl, F1, I1, rfl, p1, p2⟩
  refine JO_putR S_X5_init rfl (by assumption) (by omega) ?_
  refine J_ald S_X5_init rfl rfl ?_
  refine J_C S_X5_init rfl ?_
  refine JO_newR S_X5_init rfl h2 (by omega) (by decide) (by omega) (by omega) ?_
  refine JO_putR S_X5_init rfl (by assumption) (by omega) ?_
  refine J_ald S_X5_init rfl rfl ?_
  refine J_C S_X5_init rfl ?_
  refine JO_newR S_X5_init rfl h3 (by omega) (by decide) (by omega) (by omega) ?_
  refine JO_putR S_X5_init rfl (by assumption) (by omega) ?_
  refine J_C S_X5_init rfl ?_
  refine J_ist S_X5_init rfl rfl ?_
  exact Jz (by omega) (by omega) (key1 2 0 _ _ rfl (st F1 I1 p1 p2 _ _ rfl rfl))
/-- the history being made, i states there -/
def HV (F : mj_F) (I : mj_I) (i : Nat) (Fx : mj_F) (Ix : mj_I) : Prop :=
  (∀ q, q < 52 → Fx q = F q ∧ Ix q = I q) ∧ (∀ q, 53 < q → q < 54 + 48 * i → GC Fx Ix q) ∧ ((∀ k, k < 1 → Fx 52 k = mj_rc 1 52 k) ∧ ∀ k, Ix 52 k = 0) ∧ ((∀ j, j < i → Fx 53 j = mj_rc 15 53 j) ∧ ∀ k, Ix 53 k = 0)
theorem I_X1 (hI : ∀ k, I 52 k = 0) : mj_R D_X1_init [.inr (some 52)] (53, F, I) (CP 52 294 F I) := by
  have h0 := s_52
  have h1 := s_53
  refine mj_enter (by decide +kernel) (Nat.le_of_ble_eq_true rfl) ?_
  have key1 : ∀ (s i : Nat) (Fx : mj_F) (Ix : mj_I), i + s = 5 → HV F I i Fx Ix → mj_J D_X1_init (CP 52 294 F I) 14 [some (.inr (some 52)), some (.inl (nI i))] [] (54 + 48 * i, Fx, Ix) (1 + 48 * i, 5 + 1582 * i) := by
    intro s
    induction s with
    | zero =>
      intro i Fx Ix hi hv2
      obtain rfl : i = 5 := by omega
      obtain ⟨a, b, c, d⟩ := hv2
      have e1 : Fx 52 0 = some 53 := c.1 0 (by decide)
      have fin : CP 52 294 F I none (294, Fx, Ix) := by
        refine ⟨rfl, _, _, rfl, a, fun q g1 g2 => ?_⟩
        by_cases q1 : q = 52
        · subst q1
          refine gc_mk h0 (fun k hk hr => ?_) (fun k => by rw [c.2 k]; exact i0_z)
          rcases hr with g | g
          · exact absurd g (by decide)
          · exact c.1 k (of_decide_eq_true g)
        · by_cases q2 : q = 53
          · subst q2
            exact gc_mk h1 (fun k hk _ => d.1 k hk) (fun k => by rw [d.2 k]; exact i0_z)
          · exact b q (by omega) (by omega)
      refine J_ild S_X1_init rfl rfl ?_
      refine J_ald S_X1_init rfl rfl ?_
      refine JO_getR S_X1_init rfl (by assumption) (by omega) (e1) ?_
      refine JO_len S_X1_init rfl (by assumption) (by omega) (by decide) ?_
      refine J_cmp S_X1_init rfl (fun c20 => ?_) (fun c20 => False.elim (c20 (Int32.le_refl _)))
      refine J_retV S_X1_init rfl ?_
      exact fin
    | succ s ih =>
      intro i Fx Ix hi hv2
      have hi5 : i < 5 := by omega
      obtain ⟨a, b, c, d⟩ := hv2
      have e1 : Fx 52 0 = some 53 := c.1 0 (by decide)
      have hSi := mj_Sh hi5
      rw [show 53 + 1 + 48 * i = 54 + 48 * i by omega] at hSi
      have hSi0 := hSi.1
      have h8 := I_X5 (F := mj_nF Fx (54 + 48 * i)) (I := mj_nI Ix (54 + 48 * i)) hSi (fun k => nI_s)
      have nx : ∀ (F1 : mj_F) (I1 : mj_I), (∀ q, q < 54 + 48 * i → F1 q = mj_nF Fx (54 + 48 * i) q ∧ I1 q = mj_nI Ix (54 + 48 * i) q) → (∀ q, 54 + 48 * i ≤ q → q < 54 + 48 * i + 48 → GC F1 I1 q) → HV F I (i + 1) (mj_uF F1 53 i (some (54 + 48 * i))) I1 := by
        intro F1 I1 p1 p2
        have f1 : ∀ q, q < 54 + 48 * i → F1 q = Fx q := fun q hq => by rw [(p1 q hq).1, nF_n (by omega)]
        have i1 : ∀ q, q < 54 + 48 * i → I1 q = Ix q := fun q hq => by rw [(p1 q hq).2, nI_n (by omega)]
        refine ⟨fun q hq => ⟨by rw [mj_uF_ne (by omega), f1 q (by omega)]; exact (a q hq).1, by rw [i1 q (by omega)]; exact (a q hq).2⟩, fun q g1 g2 => ?_, ⟨fun k hk => by rw [mj_uF_ne (by omega), f1 52 (by omega)]; exact c.1 k hk, fun k => by rw [i1 52 (by omega)]; exact c.2 k⟩, ⟨fun j hj => ?_, fun k => by rw [i1 _ (by omega)]; exact d.2 k⟩⟩
        · by_cases q1 : q < 54 + 48 * i
          · exact gc_fr (b q g1 q1) (by rw [mj_uF_ne (by omega), f1 q q1]) (i1 q q1)
          · exact gc_fr (p2 q (by omega) (by omega)) (mj_uF_ne (by omega)) rfl
        · by_cases q1 : j = i
          · subst q1
            rw [uF_s]
            exact congrArg some (by omega)
          · rw [uF_k q1, f1 _ (by omega)]
            exact d.1 j (by omega)
      refine J_ild S_X1_init rfl rfl ?_
      refine J_ald S_X1_init rfl rfl ?_
      refine JO_getR S_X1_init rfl (by assumption) (by omega) (e1) ?_
      refine JO_len S_X1_init rfl (by assumption) (by omega) (by decide) ?_
      refine J_cmp S_X1_init rfl (fun c20 => False.elim (nI_ge hi5 (by omega) c20)) (fun c20 => ?_)
      refine J_ald S_X1_init rfl rfl ?_
      refine JO_getR S_X1_init rfl (by assumption) (by omega) (e1) ?_
      refine J_ild S_X1_init rfl rfl ?_
      refine JO_new S_X1_init rfl (by assumption) (by omega) (by omega) (by omega) ?_
      refine J_dup S_X1_init rfl ?_
      refine JO_CI (mc := 47) (ms := 1579) S_X1_init rfl rfl rfl rfl (by simp) (by omega) (by omega) (h8) ?_
      rintro _ _ ⟨rfl, F1, I1, rfl, p1, p2⟩
      refine JO_aast S_X1_init rfl (by assumption) (by omega) (by assumption) (by omega) (j := i) rfl hi5 (by decide) ?_
      refine J_inc S_X1_init rfl rfl rfl ?_
      refine J_goto S_X1_init rfl ?_
      rw [← nI_succ]
      exact Jz (by omega) (by omega) (ih (i + 1) _ _ (by omega) (nx F1 I1 p1 p2))
  have st : HV F I 0 (mj_uF (mj_nF F 53) 52 0 (some 53)) (mj_nI I 53) := by
    refine ⟨fun q hq => ⟨by rw [mj_uF_ne (by omega), nF_n (by omega)], by rw [nI_n (by omega)]⟩, fun q g1 g2 => by omega, ⟨fun k hk => ?_, fun k => by rw [nI_n (by omega)]; exact hI k⟩, ⟨fun j hj => absurd hj (Nat.not_lt_zero j), fun k => nI_s⟩⟩
    obtain rfl : k = 0 := by omega
    rw [uF_s]; rfl
  refine J_ald S_X1_init rfl rfl ?_
  refine JO_obj S_X1_init rfl (by simp) ?_
  refine J_ald S_X1_init rfl rfl ?_
  refine J_C S_X1_init rfl ?_
  refine JO_newR S_X1_init rfl (by assumption) (by omega) (by decide) (by omega) (by omega) ?_
  refine JO_putR S_X1_init rfl (by assumption) (by omega) ?_
  refine J_C S_X1_init rfl ?_
  refine J_ist S_X1_init rfl rfl ?_
  exact Jz (by omega) (by omega) (key1 5 0 _ _ rfl st)
def XV (F : mj_F) (I : mj_I) (n m : Nat) : Prop := (∀ q, 1 ≤ q → q < n → GC F I q) ∧ (∀ k, k < m → F 0 k = mj_rc 9 0 k) ∧ ∀ k, I 0 k = 0
theorem XV_step {F1 : mj_F} {I1 : mj_I} {n n' m : Nat} (h : XV F I n m) (hn : 1 ≤ n) (hnn : n ≤ n') (p1 : ∀ q, q < n → F1 q = mj_nF F n q ∧ I1 q = mj_nI I n q) (p2 : ∀ q, n ≤ q → q < n' → GC F1 I1 q) (hr : mj_rc 9 0 m = some n) : XV (mj_uF F1 0 m (some n)) I1 n' (m + 1) := by
  obtain ⟨a, b, c⟩ := h
  refine ⟨fun q g1 g2 => ?_, fun k hk => ?_, fun k => by rw [(p1 0 (by omega)).2, nI_n (by omega)]; exact c k⟩
  · by_cases q1 : q < n
    · exact gc_fr (a q g1 q1) (by rw [mj_uF_ne (by omega), (p1 q q1).1, nF_n (by omega)]) (by rw [(p1 q q1).2, nI_n (by omega)])
    · exact gc_fr (p2 q (by omega) g2) (mj_uF_ne (by omega)) rfl
  · by_cases q1 : k = m
    · subst q1
      rw [uF_s, hr]
    · rw [uF_k q1, (p1 0 (by omega)).1, nF_n (by omega)]
      exact b k (by omega)
theorem I_X9 (hI : ∀ k, I 0 k = 0) : mj_R D_X9_init [.inr (some 0)] (1, F, I) (CP 0 313 F I) := by
  have h0 := s_0
  have h1 := s_1
  have h4 := mj_S4.1
  have h52 := s_52
  have h294 := s_294
  have h298 := mj_B298.1
  have x0 : XV F I 1 0 := ⟨fun q g1 g2 => by omega, fun k hk => absurd hk (Nat.not_lt_zero k), hI⟩
  have k3 := fun (F : mj_F) (I : mj_I) => I_X3 (F := mj_nF F 1) (I := mj_nI I 1) s_1 s_2 s_3 (by omega) (fun k => nI_s)
  have k5 := fun (F : mj_F) (I : mj_I) => I_X5 (F := mj_nF F 4) (I := mj_nI I 4) mj_S4 (fun k => nI_s)
  have k1 := fun (F : mj_F) (I : mj_I) => I_X1 (F := mj_nF F 52) (I := mj_nI I 52) (fun k => nI_s)
  have k4 := fun (F : mj_F) (I : mj_I) => I_X4 (F := mj_nF F 294) (I := mj_nI I 294) s_294 s_295 s_296 s_297 (by omega) (fun k => nI_s)
  have k0 := fun (F : mj_F) (I : mj_I) => I_X0 (F := mj_nF F 298) (I := mj_nI I 298) mj_B298 (fun k => nI_s)
  refine mj_enter (by decide +kernel) (Nat.le_of_ble_eq_true rfl) ?_
  have fin : ∀ (F' : mj_F) (I' : mj_I), XV F' I' 313 5 → CP 0 313 F I none (313, F', I') := by
    intro F' I' ⟨a, b, c⟩
    refine ⟨rfl, _, _, rfl, fun q hq => absurd hq (Nat.not_lt_zero q), fun q g1 g2 => ?_⟩
    by_cases q1 : q = 0
    · subst q1
      exact gc_mk h0 (fun k hk _ => b k hk) (fun k => by rw [c k]; exact i0_z)
    · exact a q (by omega) g2
  refine J_ald S_X9_init rfl rfl ?_
  refine JO_obj S_X9_init rfl (by simp) ?_
  refine J_ald S_X9_init rfl rfl ?_
  refine JO_new S_X9_init rfl (by assumption) (by omega) (by omega) (by omega) ?_
  refine J_dup S_X9_init rfl ?_
  refine JO_CI (mc := 2) (ms := 42) S_X9_init rfl rfl rfl rfl (by simp) (by omega) (by omega) (k3 F I) ?_
  rintro _ _ ⟨rfl, F1, I1, rfl, p1, p2⟩
  have x1 := XV_step x0 (by decide) (by decide) p1 p2 rfl
  refine JO_putR S_X9_init rfl (by assumption) (by omega) ?_
  refine J_ald S_X9_init rfl rfl ?_
  refine JO_new S_X9_init rfl (by assumption) (by omega) (by omega) (by omega) ?_
  refine J_dup S_X9_init rfl ?_
  refine JO_CI (mc := 47) (ms := 1579) S_X9_init rfl rfl rfl rfl (by simp) (by omega) (by omega) (k5 _ _) ?_
  rintro _ _ ⟨rfl, F2, I2, rfl, p3, p4⟩
  have x2 := XV_step x1 (by decide) (by decide) p3 p4 rfl
  refine JO_putR S_X9_init rfl (by assumption) (by omega) ?_
  refine J_ald S_X9_init rfl rfl ?_
  refine JO_new S_X9_init rfl (by assumption) (by omega) (by omega) (by omega) ?_
  refine J_dup S_X9_init rfl ?_
  refine JO_CI (mc := 241) (ms := 7915) S_X9_init rfl rfl rfl rfl (by simp) (by omega) (by omega) (k1 _ _) ?_
  rintro _ _ ⟨rfl, F3, I3, rfl, p5, p6⟩
  have x3 := XV_step x2 (by decide) (by decide) p5 p6 rfl
  refine JO_putR S_X9_init rfl (by assumption) (by omega) ?_
  refine J_ald S_X9_init rfl rfl ?_
  refine JO_new S_X9_init rfl (by assumption) (by omega) (by omega) (by omega) ?_
  refine J_dup S_X9_init rfl ?_
  refine JO_CI (mc := 3) (ms := 33) S_X9_init rfl rfl rfl rfl (by simp) (by omega) (by omega) (k4 _ _) ?_
  rintro _ _ ⟨rfl, F4, I4, rfl, p7, p8⟩
  have x4 := XV_step x3 (by decide) (by decide) p7 p8 rfl
  refine JO_putR S_X9_init rfl (by assumption) (by omega) ?_
  refine J_ald S_X9_init rfl rfl ?_
  refine JO_new S_X9_init rfl (by assumption) (by omega) (by omega) (by omega) ?_
  refine J_dup S_X9_init rfl ?_
  refine JO_CI (mc := 14) (ms := 513) S_X9_init rfl rfl rfl rfl (by simp) (by omega) (by omega) (k0 _ _) ?_
  rintro _ _ ⟨rfl, F5, I5, rfl, p9, p10⟩
  have x5 := XV_step x4 (by decide) (by decide) p9 p10 rfl
  refine JO_putR S_X9_init rfl (by assumption) (by omega) ?_
  refine J_retV S_X9_init rfl ?_
  exact fin _ _ x5
/-- the reference being made -/
def MV (F0 : mj_F) (I0 : mj_I) (F : mj_F) (I : mj_I) (n : Nat) (S : List Nat) : Prop := (∀ q, q < 313 → F q = F0 q ∧ I q = I0 q) ∧ (∀ q, 313 ≤ q → q < n → ∀ k, I q k = 0) ∧ ∀ k, k ∈ S → F 313 k = mj_rc 10 313 k
theorem MV_step {F0 : mj_F} {I0 : mj_I} {n k : Nat} {S : List Nat} (h : MV F0 I0 F I n S) (hn : 314 ≤ n) (hr : mj_rc 10 313 k = some n) : MV F0 I0 (mj_uF (mj_nF F n) 313 k (some n)) (mj_nI I n) (n + 1) (k :: S) := by
  obtain ⟨a, b, c⟩ := h
  refine ⟨fun q hq => ⟨by rw [mj_uF_ne (by omega), nF_n (by omega)]; exact (a q hq).1, by rw [nI_n (by omega)]; exact (a q hq).2⟩, fun q g1 g2 j => ?_, fun j hj => ?_⟩
  · by_cases q1 : q = n
    · subst q1; exact nI_s
    · rw [nI_n q1]; exact b q g1 (by omega) j
  · by_cases q1 : j = k
    · subst q1
      rw [uF_s, hr]
    · rw [uF_k q1, nF_n (by omega)]
      rcases List.mem_cons.mp hj with e | e
      · exact absurd e q1
      · exact c j e
end In2
