def fcV (v : mv) (r c : Nat) : mv := upd (upd v 2 (nI c)) 14 (nI r)
theorem sq_fc {v : mv} {r c : Nat} : SQ v (fcV v r c) := by
  unfold fcV
  refine sq_tr (sq_up (Or.inl (by omega)) ?_) (sq_up (Or.inl (by omega)) ?_) <;> intro k' f' hf' <;> omega
theorem fc_e {v : mv} {r c i : Nat} (h2 : i ≠ 2) (h14 : i ≠ 14) : fcV v r c i = v i := by
  unfold fcV
  rw [up_n h14, up_n h2]
theorem fc_I {v : mv} (hI : IV v) {r c : Nat} (hr : r < 3) (hc : c ≤ 9999) : IV (fcV v r c) :=
  IV_set (i := 5) (IV_tre hI (rg_nI hc (by decide))) (by decide) (rg_nI (by show r ≤ 2; omega) (by decide)) (Nat.zero_le _)
theorem OR_to {v v' : mv} {r n : Nat} {p p' : Nat → Bool} {t : Nat → Nat} (h : OR v r p n t) (hp : ∀ k, p' k = p k) (e : ∀ k, p k = true → rkI v' r k = rkI v r k) : OR v' r p' n t := by
  have ht : ∀ i, i < n → p (t i) = true := fun i hi => (h.2 _).mpr ⟨i, hi, rfl⟩
  refine ⟨fun i j hij hj => ?_, fun k => by rw [hp]; exact h.2 k⟩
  have := h.1 i j hij hj
  unfold lx at this ⊢
  rw [e _ (ht i (by omega)), e _ (ht j hj)]
  exact this
theorem fc_O {v : mv} (hI : IV v) {r c n : Nat} {t : Nat → Nat} (h : OR v r (wt v) n t) : OR (fcV v r c) r (wt (fcV v r c)) n t := by
  have ek : ∀ k f, vk (fcV v r c) k f = vk v k f := fun k f => fc_e (by omega) (by omega)
  refine OR_to h (fun k => by unfold wt ex; rw [ek, ek]) (fun k _ => ?_)
  obtain ⟨-, -, h3⟩ := py_to (v := v) (v' := fcV v r c) hI sq_fc (fc_e (by decide) (by decide)) (fc_e (by decide) (by decide)) (fc_e (by decide) (by decide)) (k := k) (ek _ _) (ek _ _) (ek _ _) 0
  unfold rkI
  rw [ek, h3]
section Ms
variable {I : mj_I}
/-- the settled views of a forecast -/
def stV (v : mv) (t : Nat → Nat) (n r c : Nat) : Nat → Bool := fun k => ex (pvV (fcV v r c) t n) k && bel (pvV (fcV v r c) t n) 4 k
theorem C_X10_settled (hI : IV (I 314)) {r c n : Nat} {t : Nat → Nat} (ht : ∀ i, t i < 8) (hn : n ≤ 8) (hr : r < 3) (hc : c ≤ 9999) (hc1 : 1 ≤ c) (hO : OR (I 314) r (wt (I 314)) n t) : mj_R D_X10_settled [.inr (some 313), .inl (nI r), .inl (nI c)] (mj_w I) (mj_px (fun a I' => a = some (.inl (nI (msk (stV (I 314) t n r c) 8))) ∧ Ms I I')) := by
  have m0 := s_313
  have m1 := s_314
  have m7 := s_320
  generalize hw0 : fcV (I 314) r c = w0
  have hIw : IV w0 := by rw [← hw0]; exact fc_I hI hr hc
  have hOw : OR w0 r (wt w0) n t := by rw [← hw0]; exact fc_O hI hO
  have hmem := fun i hi => OR_mem hO (i := i) hi
  have hmw := fun i hi => OR_mem hOw (i := i) hi
  have hte := fun i hi => (hmw i hi).2.1
  have eq0 : ∀ k f, vk w0 k f = vk (I 314) k f := fun k f => by rw [← hw0]; exact fc_e (by omega) (by omega)
  have sq0 : SQ (I 314) w0 := by rw [← hw0]; exact sq_fc
  have es : ∀ i, i ≠ 2 → i ≠ 14 → w0 i = I 314 i := fun i h h' => by rw [← hw0]; exact fc_e h h'
  have inj : ∀ a b, a < n → b < n → t a = t b → a = b := fun a j ha hj e => by
    rcases Nat.lt_trichotomy a j with g1 | g1 | g1
    · have := hO.1 a j g1 hj
      rw [e] at this; exact (lx_ir this).elim
    · exact g1
    · have := hO.1 j a g1 ha
      rw [e] at this; exact (lx_ir this).elim
  -- what is paid in turn i is what the reference reckons from the views as they are
  have step : ∀ i, i < n → ∀ c, pyD (pvV w0 t i) (t i) c = pyD (I 314) (t i) c ∧ pyA (pvV w0 t i) (t i) c = pyA (I 314) (t i) c ∧ needN (pvV w0 t i) (t i) = needN (I 314) (t i) := by
    intro i hi c
    have hj : ∀ j, j < i → t j ≠ t i := fun j hj e => by have := inj j i (by omega) hi e; omega
    have g := fun f hf => pv_k (v := w0) ht (ht i) f hf i hj
    refine py_to hI (sq_tr sq0 (sq_pv ht i)) ?_ ?_ ?_ ?_ ?_ ?_ c
    · rw [pv_s ht i 0 (by decide) (by decide) (by decide) (by decide)]; exact es 0 (by decide) (by decide)
    · rw [pv_s ht i 10 (by decide) (by decide) (by decide) (by decide)]; exact es 10 (by decide) (by decide)
    · rw [pv_s ht i 13 (by decide) (by decide) (by decide) (by decide)]; exact es 13 (by decide) (by decide)
    · rw [g 5 (by decide)]; exact eq0 _ _
    · rw [g 6 (by decide)]; exact eq0 _ _
    · rw [g 7 (by decide)]; exact eq0 _ _
  have hIi : ∀ i, i ≤ n → IV (pvV w0 t i) := fun i hi => pv_I ht hIw hte i hi
  have keep : ∀ i q, i < n → q ≠ t i → needN (pvV w0 t (i + 1)) q = needN (pvV w0 t i) q := by
    intro i q hi hne
    have g : ∀ f, f < 9 → vk (pvV w0 t (i + 1)) q f = vk (pvV w0 t i) q f := fun f hf => by
      show payV _ _ _ _ = _
      exact payV_o (by omega) (by omega) (by omega) (by omega) (by omega) (by omega)
    have s : ∀ k, k ≠ 2 → k ≠ 4 → k ≠ 5 → k < 615 → pvV w0 t (i + 1) k = pvV w0 t i k := fun k h2 h4 h5 h6 => by
      show payV _ _ _ _ = _
      exact payV_o (by omega) (by omega) (by omega) (by omega) (by omega) (by omega)
    exact (py_to (hIi i (by omega)) sq_py (s 0 (by decide) (by decide) (by decide) (by decide)) (s 10 (by decide) (by decide) (by decide) (by decide)) (s 13 (by decide) (by decide) (by decide) (by decide)) (g 5 (by decide)) (g 6 (by decide)) (g 7 (by decide)) 0).2.2
  have tre : ∀ i, i < n → pvV w0 t (i + 1) 2 = nI (tn (pvV w0 t i 2) - (pyD (pvV w0 t i) (t i) (tn (pvV w0 t i 2)) + pyA (pvV w0 t i) (t i) (tn (pvV w0 t i 2)))) := by
    intro i hi
    have e : pvV w0 t (i + 1) 2 = pvV w0 t i 2 - nI (pyD (pvV w0 t i) (t i) (tn (pvV w0 t i 2)) + pyA (pvV w0 t i) (t i) (tn (pvV w0 t i 2))) := by
      show payV _ _ _ 2 = _
      unfold payV
      rw [up_n (by omega), up_n (by omega), up_s]
    have h2 := (hIi i (by omega)).2.2.1
    have hle := py_le (pvV w0 t i) (t i) (tn (pvV w0 t i 2))
    rw [e]
    generalize pyD (pvV w0 t i) (t i) (tn (pvV w0 t i 2)) + pyA (pvV w0 t i) (t i) (tn (pvV w0 t i 2)) = z at *
    have h1 := h2.1
    rw [show pvV w0 t i 2 - nI z = nI (tn (pvV w0 t i 2)) - nI z by rw [← h1]]
    exact pk_sub hle
  have hfin : ∀ (p : Nat → Bool), (∀ q, q < 8 → (p q = true ↔ (∃ j, j < n ∧ t j = q) ∧ needN (pvV w0 t n) q = 0)) → msk p 8 = msk (stV (I 314) t n r c) 8 := by
    intro p hp
    refine msk_ext (fun q hq => ?_)
    have e : (stV (I 314) t n r c) q = true ↔ (∃ j, j < n ∧ t j = q) ∧ needN (pvV w0 t n) q = 0 := by
      unfold stV ex
      rw [hw0]
      show ((decide (vk (pvV w0 t n) q 4 = 1)) && (decide (vk (pvV w0 t n) q 5 = 0) && decide (need (pvV w0 t n) q = 0))) = true ↔ _
      simp only [Bool.and_eq_true, decide_eq_true_eq]
      rw [pv_q n q 4 (by decide), pv_q n q 5 (by decide), ← hOw.2 q]
      unfold wt ex
      simp only [Bool.and_eq_true, decide_eq_true_eq]
      constructor
      · rintro ⟨h1, h2, h3⟩
        obtain ⟨n1, n2⟩ := need_N (hIi n (Nat.le_refl n)) hq (by rw [pv_q n q 4 (by decide)]; exact h1)
        rw [n1] at h3
        exact ⟨⟨hq, h1, h2⟩, (nI_eq (b := 0) (by omega) (by decide)).mp h3⟩
      · rintro ⟨⟨-, h1, h2⟩, h3⟩
        obtain ⟨n1, n2⟩ := need_N (hIi n (Nat.le_refl n)) hq (by rw [pv_q n q 4 (by decide)]; exact h1)
        exact ⟨h1, h2, by rw [n1, h3]; rfl⟩
    cases h1 : p q <;> cases h2 : stV (I 314) t n r c q
    · rfl
    · exact absurd ((hp q hq).mpr (e.mp h2)) (by rw [h1]; decide)
    · exact absurd (e.mpr ((hp q hq).mp h1)) (by rw [h2]; decide)
    · rfl
  refine mj_enter (by decide +kernel) (Nat.le_of_ble_eq_true rfl) ?_
  have key : ∀ (s i : Nat) (p : Nat → Bool) (I' : mj_I) (q7 : Option mj_V), i + s = n → Ms I I' → (∀ j, j < n → I' 320 j = nI (t j)) → (∀ q, q < 8 → (p q = true ↔ (∃ j, j < i ∧ t j = q) ∧ needN (pvV w0 t i) q = 0)) →
      mj_J D_X10_settled (mj_px (fun a I' => a = some (.inl (nI (msk (stV (I 314) t n r c) 8))) ∧ Ms I I')) 38 [some (.inr (some 313)), some (.inl (nI r)), some (.inl (nI c)), some (.inl (nI n)), some (.inl (pvV w0 t i 2)), some (.inl (nI (msk p 8))), some (.inl (nI i)), q7] [] (mj_w I') (0, 0) := by
    intro s
    induction s with
    | zero =>
      intro i p I' q7 hi hM hT hp
      obtain rfl : i = n := by omega
      refine J_ild S_X10_settled rfl rfl ?_
      refine J_ild S_X10_settled rfl rfl ?_
      refine J_cmp S_X10_settled rfl (fun c41 => ?_) (fun c41 => False.elim (c41 (nI_le (Nat.le_refl _) (by omega))))
      refine J_ild S_X10_settled rfl rfl ?_
      refine J_retI S_X10_settled rfl ?_
      rw [hfin p hp]
      exact ⟨I', rfl, rfl, hM⟩
    | succ s ih =>
      intro i p I' q7 hi hM hT hp
      have hin : i < n := by omega
      obtain ⟨t8, t4, t5⟩ := hmem i hin
      have h2 := (hIi i (by omega)).2.2.1
      obtain ⟨L, hL, hLl⟩ : ∃ L, pvV w0 t i 2 = nI L ∧ L ≤ 9999 := ⟨_, h2.1, h2.2⟩
      have htL : tn (pvV w0 t i 2) = L := by rw [hL, tn_nI (by omega)]
      obtain ⟨s1, s2, s3⟩ := step i hin L
      have tr := tre i hin
      rw [htL, s1, s2] at tr
      have np := need_pay (v := pvV w0 t i) (c := L) (hIi i (by omega)) t8 (by rw [pv_q i _ 4 (by decide)]; exact (hmw i hin).2.1) (by rw [pv_q i _ 5 (by decide)]; exact (hmw i hin).2.2)
      rw [s1, s2, s3, ← htL, show payV (pvV w0 t i) (t i) (tn (pvV w0 t i 2)) = pvV w0 t (i + 1) from rfl, htL] at np
      have hle := py_le (I 314) (t i) L
      obtain ⟨n1, n2⟩ := need_N hI t8 t4
      have e314 : I' 314 = I 314 := hM.1 314 (by decide) (by decide) (by decide) (by decide) (by decide)
      have hsp := C_X10_spends (I := I') (k := t i) (c := L) (by rw [e314]; exact hI) t8 (by rw [e314]; exact t4) hLl
      rw [e314] at hsp
      rw [hL]
      generalize hD : pyD (I 314) (t i) L = D at *
      generalize hA : pyA (I 314) (t i) L = A at *
      have nx : ∀ (I2 : mj_I) (p' : Nat → Bool) (q7 : Option mj_V), F9 I' I2 → (∀ q, p' q = (p q || (decide (q = t i) && decide (D + A = needN (I 314) (t i))))) → mj_J D_X10_settled (mj_px (fun a I' => a = some (.inl (nI (msk (stV (I 314) t n r c) 8))) ∧ Ms I I')) 38 [some (.inr (some 313)), some (.inl (nI r)), some (.inl (nI c)), some (.inl (nI n)), some (.inl (nI L - nI (D + A))), some (.inl (nI (msk p' 8))), some (.inl (nI i + 1)), q7] [] (mj_w I2) (0, 0) := by
        intro I2 p' q7 hF hp'
        rw [pk_sub (by omega), ← tr, ← nI_succ]
        refine ih (i + 1) p' I2 q7 (by omega) (ms_tr hM ⟨fun o g _ _ _ _ => hF.1 o g, hF.2 2 (by decide) (by decide), hF.2 4 (by decide) (by decide)⟩) (fun j hj => by rw [hF.1 320 (by decide)]; exact hT j hj) (fun q hq => ?_)
        rw [hp']
        simp only [Bool.or_eq_true, Bool.and_eq_true, decide_eq_true_eq]
        rw [hp q hq]
        by_cases e : q = t i
        · subst e
          constructor
          · rintro (⟨⟨j, hj, e⟩, -⟩ | ⟨-, h⟩)
            · have := inj j i (by omega) hin e; omega
            · exact ⟨⟨i, by omega, rfl⟩, by omega⟩
          · rintro ⟨-, h⟩
            exact Or.inr ⟨rfl, by omega⟩
        · rw [keep i q hin e]
          constructor
          · rintro (⟨⟨j, hj, e⟩, h⟩ | ⟨h, -⟩)
            · exact ⟨⟨j, by omega, e⟩, h⟩
            · exact absurd h e
          · rintro ⟨⟨j, hj, e2⟩, h⟩
            refine Or.inl ⟨⟨j, ?_, e2⟩, h⟩
            by_cases e3 : j = i
            · rw [e3] at e2; exact absurd e2.symm e
            · omega
      have hne := fun (I2 : mj_I) (hF : F9 I' I2) => C_X10_need (I := I2) (k := t i) (by rw [hF.1 314 (by decide), e314]; exact hI) t8 (by rw [hF.1 314 (by decide), e314]; exact t4)
      have eT : I' 320 i = nI (t i) := hT i hin
      by_cases hz : D + A = needN (I 314) (t i)
      · refine J_ild S_X10_settled rfl rfl ?_
        refine J_ild S_X10_settled rfl rfl ?_
        refine J_cmp S_X10_settled rfl (fun c41 => False.elim (nI_ge hin (by omega) c41)) (fun c41 => ?_)
        refine J_ald S_X10_settled rfl rfl ?_
        refine J_getR S_X10_settled rfl (o' := 320) (by assumption) (by omega) rfl ?_
        refine J_ild S_X10_settled rfl rfl ?_
        refine J_iald S_X10_settled rfl (by assumption) (by omega) (j := i) rfl (by omega) (by decide) ?_
        rw [eT]
        refine J_ist S_X10_settled rfl rfl ?_
        refine J_ald S_X10_settled rfl rfl ?_
        refine J_ild S_X10_settled rfl rfl ?_
        refine J_ild S_X10_settled rfl rfl ?_
        refine J_CV S_X10_settled rfl rfl (by assumption) (by omega) (by simp) (hsp) ?_
        rintro _ _ ⟨I2, rfl, rfl, hF, h9, h10⟩
        refine J_ild S_X10_settled rfl rfl ?_
        refine J_ald S_X10_settled rfl rfl ?_
        refine J_getI S_X10_settled rfl (by assumption) (by omega) ?_
        refine J_ald S_X10_settled rfl rfl ?_
        refine J_getI S_X10_settled rfl (by assumption) (by omega) ?_
        refine J_bin S_X10_settled rfl ?_
        rw [h9, h10, nI_add]
        refine J_bin S_X10_settled rfl ?_
        refine J_ist S_X10_settled rfl rfl ?_
        refine J_ild S_X10_settled rfl rfl ?_
        refine J_ald S_X10_settled rfl rfl ?_
        refine J_getI S_X10_settled rfl (by assumption) (by omega) ?_
        refine J_ald S_X10_settled rfl rfl ?_
        refine J_getI S_X10_settled rfl (by assumption) (by omega) ?_
        refine J_bin S_X10_settled rfl ?_
        rw [h9, h10, nI_add]
        refine J_ald S_X10_settled rfl rfl ?_
        refine J_ild S_X10_settled rfl rfl ?_
        refine J_CVx S_X10_settled rfl rfl (by assumption) (by omega) (by simp) (hne I2 hF) rfl ?_
        rw [hF.1 314 (by decide), e314, n1]
        refine J_cmp S_X10_settled rfl (fun c92 => False.elim (c92 (by rw [hz]))) (fun c92 => ?_)
        refine J_C S_X10_settled rfl ?_
        refine J_ild S_X10_settled rfl rfl ?_
        refine J_bin S_X10_settled rfl ?_
        refine J_goto S_X10_settled rfl ?_
        refine J_bin S_X10_settled rfl ?_
        refine J_ist S_X10_settled rfl rfl ?_
        refine J_inc S_X10_settled rfl rfl rfl ?_
        refine J_goto S_X10_settled rfl ?_
        rw [msk_ins p t8]
        exact nx I2 _ _ hF (fun q => by rw [decide_eq_true hz, Bool.and_true])
      · refine J_ild S_X10_settled rfl rfl ?_
        refine J_ild S_X10_settled rfl rfl ?_
        refine J_cmp S_X10_settled rfl (fun c41 => False.elim (nI_ge hin (by omega) c41)) (fun c41 => ?_)
        refine J_ald S_X10_settled rfl rfl ?_
        refine J_getR S_X10_settled rfl (o' := 320) (by assumption) (by omega) rfl ?_
        refine J_ild S_X10_settled rfl rfl ?_
        refine J_iald S_X10_settled rfl (by assumption) (by omega) (j := i) rfl (by omega) (by decide) ?_
        rw [eT]
        refine J_ist S_X10_settled rfl rfl ?_
        refine J_ald S_X10_settled rfl rfl ?_
        refine J_ild S_X10_settled rfl rfl ?_
        refine J_ild S_X10_settled rfl rfl ?_
        refine J_CV S_X10_settled rfl rfl (by assumption) (by omega) (by simp) (hsp) ?_
        rintro _ _ ⟨I2, rfl, rfl, hF, h9, h10⟩
        refine J_ild S_X10_settled rfl rfl ?_
        refine J_ald S_X10_settled rfl rfl ?_
        refine J_getI S_X10_settled rfl (by assumption) (by omega) ?_
        refine J_ald S_X10_settled rfl rfl ?_
        refine J_getI S_X10_settled rfl (by assumption) (by omega) ?_
        refine J_bin S_X10_settled rfl ?_
        rw [h9, h10, nI_add]
        refine J_bin S_X10_settled rfl ?_
        refine J_ist S_X10_settled rfl rfl ?_
        refine J_ild S_X10_settled rfl rfl ?_
        refine J_ald S_X10_settled rfl rfl ?_
        refine J_getI S_X10_settled rfl (by assumption) (by omega) ?_
        refine J_ald S_X10_settled rfl rfl ?_
        refine J_getI S_X10_settled rfl (by assumption) (by omega) ?_
        refine J_bin S_X10_settled rfl ?_
        rw [h9, h10, nI_add]
        refine J_ald S_X10_settled rfl rfl ?_
        refine J_ild S_X10_settled rfl rfl ?_
        refine J_CVx S_X10_settled rfl rfl (by assumption) (by omega) (by simp) (hne I2 hF) rfl ?_
        rw [hF.1 314 (by decide), e314, n1]
        refine J_cmp S_X10_settled rfl (fun c92 => ?_) (fun c92 => False.elim (hz ((nI_eq (by omega) (by omega)).mp c92)))
        refine J_C S_X10_settled rfl ?_
        refine J_bin S_X10_settled rfl ?_
        refine J_ist S_X10_settled rfl rfl ?_
        refine J_inc S_X10_settled rfl rfl rfl ?_
        refine J_goto S_X10_settled rfl ?_
        rw [Int32.or_zero]
        exact nx I2 p _ hF (fun q => by rw [decide_eq_false hz, Bool.and_false, Bool.or_false])
  have hin1 := C_X10_in (I := I) (x := nI r) (lo := 0) (hi := 2)
  rw [show (decide ((0 : Int32) ≤ nI r) && decide (nI r ≤ 2)) = true by rw [decide_eq_true (nI_pos' (by omega)), decide_eq_true (show nI r ≤ 2 from nI_le (b := 2) (by omega) (by decide))]; rfl] at hin1
  have hin2 := C_X10_in (I := I) (x := nI c) (lo := 1) (hi := 9999)
  rw [show (decide ((1 : Int32) ≤ nI c) && decide (nI c ≤ 9999)) = true by rw [decide_eq_true (show 1 ≤ nI c from nI_le (a := 1) hc1 (by omega)), decide_eq_true (show nI c ≤ 9999 from nI_le (b := 9999) (by omega) (by decide))]; rfl] at hin2
  have hla := C_X10_laysTurns hI hr hO
  have e0 : nI c = pvV w0 t 0 2 := by rw [← hw0]; rfl
  refine J_ild S_X10_settled rfl rfl ?_
  refine J_C S_X10_settled rfl ?_
  refine J_C S_X10_settled rfl ?_
  refine J_CSx S_X10_settled rfl rfl (by simp) (hin1) rfl ?_
  refine J_if S_X10_settled rfl (fun c6 => False.elim (absurd c6 (by decide))) (fun c6 => ?_)
  refine J_ild S_X10_settled rfl rfl ?_
  refine J_C S_X10_settled rfl ?_
  refine J_C S_X10_settled rfl ?_
  refine J_CSx S_X10_settled rfl rfl (by simp) (hin2) rfl ?_
  refine J_if S_X10_settled rfl (fun c17 => ?_) (fun c17 => False.elim (absurd c17 (by decide)))
  refine J_ald S_X10_settled rfl rfl ?_
  refine J_ild S_X10_settled rfl rfl ?_
  refine J_CV S_X10_settled rfl rfl (by assumption) (by omega) (by simp) (hla) ?_
  rintro _ _ ⟨I2, rfl, rfl, hF, hT⟩
  refine J_ist S_X10_settled rfl rfl ?_
  refine J_ild S_X10_settled rfl rfl ?_
  refine J_ist S_X10_settled rfl rfl ?_
  refine J_C S_X10_settled rfl ?_
  refine J_ist S_X10_settled rfl rfl ?_
  refine J_C S_X10_settled rfl ?_
  refine J_ist S_X10_settled rfl rfl ?_
  have g := key n 0 (fun _ => false) I2 none (by omega) ⟨fun o _ _ _ _ h => hF o h, by rw [hF 313 (by decide)], by rw [hF 313 (by decide)]⟩ hT (fun q hq => ⟨fun h => absurd h (by decide), fun h => by obtain ⟨⟨j, hj, -⟩, -⟩ := h; exact absurd hj (Nat.not_lt_zero j)⟩)
  rw [← e0] at g
  exact g
end Ms
