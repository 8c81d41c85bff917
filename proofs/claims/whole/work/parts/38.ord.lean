def needN (v : mv) (k : Nat) : Nat := tn (vk v k 7) + arr v k * prN v k
theorem arr_le (v : mv) (k : Nat) : arr v k ≤ tn (v 0) := by
  unfold arr
  split
  · omega
  · have := cnt_le (fun j => cs v k (cl v j)) (tn (vk v k 6)) (tn (v 0) - tn (vk v k 6))
    omega
theorem need_N {v : mv} (hI : IV v) {k : Nat} (hk : k < 8) (he : vk v k 4 = 1) : need v k = nI (needN v k) ∧ needN v k ≤ 8500 := by
  obtain ⟨-, -, -, -, -, -, -, -, -, -, -, w7, -⟩ := hI.wv hk he
  obtain ⟨p1, p2, p3⟩ := prc_N hI k
  have ha := arr_le v k
  have hl := hI.1.2
  have hm : arr v k * prN v k ≤ 200 * 40 := Nat.mul_le_mul (by omega) p3
  refine ⟨?_, by have := w7.2; unfold needN; omega⟩
  have h7 : vk v k 7 = nI (tn (vk v k 7)) := w7.1
  unfold need needN
  rw [p1, pk_mul, ← nI_add, ← h7]
def rkI (v : mv) (r k : Nat) : Int := if r = 1 then -(tn (vk v k 7) : Int) else if r = 2 then (needN v k : Int) else 0
def lx (v : mv) (r a b : Nat) : Prop := rkI v r a < rkI v r b ∨ (rkI v r a = rkI v r b ∧ a < b)
theorem lx_tr {v : mv} {r a b c : Nat} (h : lx v r a b) (h' : lx v r b c) : lx v r a c := by unfold lx at *; omega
theorem lx_ir {v : mv} {r a : Nat} (h : lx v r a a) : False := by unfold lx at h; omega
theorem lx_as {v : mv} {r a b : Nat} (h : lx v r a b) (h' : lx v r b a) : False := lx_ir (lx_tr h h')
theorem lx_to {v : mv} {r a b : Nat} (h : a ≠ b) : lx v r a b ∨ lx v r b a := by unfold lx; omega
/-- t names the n views of the set p in the order of a rule -/
def OR (v : mv) (r : Nat) (p : Nat → Bool) (n : Nat) (t : Nat → Nat) : Prop := (∀ i j, i < j → j < n → lx v r (t i) (t j)) ∧ ∀ k, p k = true ↔ ∃ i, i < n ∧ t i = k
theorem OR_one {v : mv} {r n n' : Nat} {p : Nat → Bool} {t t' : Nat → Nat} (h : OR v r p n t) (h' : OR v r p n' t') : n = n' ∧ ∀ i, i < n → t i = t' i := by
  have dis : ∀ {n : Nat} {t : Nat → Nat}, OR v r p n t → ∀ i j, i < n → j < n → t i = t j → i = j := by
    intro n t h i j hi hj e
    rcases Nat.lt_trichotomy i j with g | g | g
    · have := h.1 i j g hj
      rw [e] at this
      exact (lx_ir this).elim
    · exact g
    · have := h.1 j i g hi
      rw [e] at this
      exact (lx_ir this).elim
  have eq : ∀ i, i < n → i < n' → t i = t' i := by
    intro i
    induction i using Nat.strongRecOn with
    | ind i ih =>
      intro hi hi'
      obtain ⟨a, ha, ea⟩ := (h'.2 (t i)).mp ((h.2 (t i)).mpr ⟨i, hi, rfl⟩)
      obtain ⟨b, hb, eb⟩ := (h.2 (t' i)).mp ((h'.2 (t' i)).mpr ⟨i, hi', rfl⟩)
      have ga : i ≤ a := by
        rcases Nat.lt_or_ge a i with g | g
        · have := ih a g (by omega) ha
          rw [← this] at ea
          exact absurd (dis h a i (by omega) hi ea) (by omega)
        · exact g
      have gb : i ≤ b := by
        rcases Nat.lt_or_ge b i with g | g
        · have := ih b g hb (by omega)
          rw [this] at eb
          exact absurd (dis h' b i (by omega) hi' eb) (by omega)
        · exact g
      rcases Nat.eq_or_lt_of_le ga with g | g
      · rw [← g] at ea; exact ea.symm
      · rcases Nat.eq_or_lt_of_le gb with g2 | g2
        · rw [← g2] at eb; exact eb
        · have x1 := h'.1 i a g ha
          have x2 := h.1 i b g2 hb
          rw [ea] at x1
          rw [eb] at x2
          exact (lx_as x1 x2).elim
  have le : ∀ {n n' : Nat} {t t' : Nat → Nat}, OR v r p n t → OR v r p n' t' → (∀ i, i < n → i < n' → t i = t' i) → n' ≤ n := by
    intro n n' t t' h h' e
    rcases Nat.lt_or_ge n n' with g | g
    · obtain ⟨b, hb, eb⟩ := (h.2 (t' n)).mp ((h'.2 (t' n)).mpr ⟨n, g, rfl⟩)
      rw [e b hb (by omega)] at eb
      exact absurd (dis h' b n (by omega) g eb) (by omega)
    · exact g
  have l1 := le h h' eq
  have l2 := le h' h (fun i a b => (eq i b a).symm)
  have : n = n' := by omega
  subst this
  exact ⟨rfl, fun i hi => eq i hi hi⟩
def insT (t : Nat → Nat) (j k : Nat) : Nat → Nat := fun i => if i < j then t i else if i = j then k else t (i - 1)
theorem OR_ins {v : mv} {r n j k : Nat} {p : Nat → Bool} {t : Nat → Nat} (h : OR v r p n t) (hj : j ≤ n) (h1 : ∀ i, i < j → lx v r (t i) k) (h2 : ∀ i, j ≤ i → i < n → lx v r k (t i)) : OR v r (fun q => p q || decide (q = k)) (n + 1) (insT t j k) := by
  refine ⟨fun a b hab hb => ?_, fun q => ?_⟩
  · unfold insT
    by_cases ha1 : a < j
    · rw [if_pos ha1]
      by_cases hb1 : b < j
      · rw [if_pos hb1]; exact h.1 a b hab (by omega)
      · rw [if_neg hb1]
        by_cases hb2 : b = j
        · rw [if_pos hb2]; exact h1 a ha1
        · rw [if_neg hb2]; exact h.1 a (b - 1) (by omega) (by omega)
    · rw [if_neg ha1, if_neg (show ¬ b < j by omega), if_neg (show ¬ b = j by omega)]
      by_cases ha2 : a = j
      · rw [if_pos ha2]; exact h2 (b - 1) (by omega) (by omega)
      · rw [if_neg ha2]; exact h.1 (a - 1) (b - 1) (by omega) (by omega)
  · simp only [Bool.or_eq_true, decide_eq_true_eq]
    rw [h.2 q]
    unfold insT
    constructor
    · rintro (⟨i, hi, e⟩ | e)
      · by_cases hij : i < j
        · exact ⟨i, by omega, by rw [if_pos hij]; exact e⟩
        · exact ⟨i + 1, by omega, by rw [if_neg (by omega), if_neg (by omega), Nat.add_sub_cancel]; exact e⟩
      · exact ⟨j, by omega, by rw [if_neg (by omega), if_pos rfl]; exact e.symm⟩
    · rintro ⟨i, hi, e⟩
      by_cases hij : i < j
      · rw [if_pos hij] at e; exact Or.inl ⟨i, by omega, e⟩
      · rw [if_neg hij] at e
        by_cases hij2 : i = j
        · rw [if_pos hij2] at e; exact Or.inr e.symm
        · rw [if_neg hij2] at e; exact Or.inl ⟨i - 1, by omega, e⟩
theorem OR_pos {v : mv} {r k : Nat} {p : Nat → Bool} {t : Nat → Nat} {n : Nat} (h : OR v r p n t) (hk : p k = false) : ∀ m, m ≤ n → (∀ i, m ≤ i → i < n → lx v r k (t i)) → ∃ j, j ≤ n ∧ (∀ i, i < j → lx v r (t i) k) ∧ ∀ i, j ≤ i → i < n → lx v r k (t i)
  | 0, hm, hr => ⟨0, Nat.zero_le n, fun i hi => absurd hi (Nat.not_lt_zero i), hr⟩
  | m + 1, hm, hr => by
    have hne : t m ≠ k := fun e => by
      have := (h.2 k).mpr ⟨m, by omega, e⟩
      rw [hk] at this
      cases this
    rcases lx_to (v := v) (r := r) hne with g | g
    · refine ⟨m + 1, hm, fun i hi => ?_, hr⟩
      by_cases e : i = m
      · rw [e]; exact g
      · exact lx_tr (h.1 i m (by omega) (by omega)) g
    · refine OR_pos h hk m (by omega) (fun i h1 h2 => ?_)
      by_cases e : i = m
      · rw [e]; exact g
      · exact hr i (by omega) h2
theorem OR_ex (v : mv) (r : Nat) (p : Nat → Bool) : ∀ m, ∃ n t, n ≤ m ∧ OR v r (fun q => decide (q < m) && p q) n t
  | 0 => ⟨0, fun _ => 0, Nat.le_refl 0, fun i j _ h => absurd h (Nat.not_lt_zero j), fun k => by simp⟩
  | m + 1 => by
    obtain ⟨n, t, hnm, h⟩ := OR_ex v r p m
    cases hp : p m
    · refine ⟨n, t, by omega, h.1, fun k => ?_⟩
      rw [← h.2 k]
      by_cases e : k = m
      · subst e; simp [hp]
      · simp only [Bool.and_eq_true, decide_eq_true_eq]
        constructor
        · rintro ⟨a, b⟩; exact ⟨by omega, b⟩
        · rintro ⟨a, b⟩; exact ⟨by omega, b⟩
    · obtain ⟨j, hj, h1, h2⟩ := OR_pos h (k := m) (by simp) n (Nat.le_refl n) (fun i a b => absurd b (by omega))
      have h3 := OR_ins h hj h1 h2
      refine ⟨n + 1, insT t j m, by omega, h3.1, fun k => ?_⟩
      rw [← h3.2 k]
      by_cases e : k = m
      · subst e; simp [hp]
      · simp only [Bool.and_eq_true, Bool.or_eq_true, decide_eq_true_eq]
        constructor
        · rintro ⟨a, b⟩; exact Or.inl ⟨by omega, b⟩
        · rintro (⟨a, b⟩ | b)
          · exact ⟨by omega, b⟩
          · exact absurd b e
/-- who waits to be paid -/
def wt (v : mv) (k : Nat) : Bool := decide (k < 8) && (ex v k && decide (vk v k 5 = 0))
theorem OR_cg {v : mv} {r n : Nat} {p p' : Nat → Bool} {t : Nat → Nat} (h : OR v r p n t) (e : ∀ k, p k = p' k) : OR v r p' n t := ⟨h.1, fun k => by rw [← e k]; exact h.2 k⟩
theorem OR_le {v : mv} {r n m : Nat} {p : Nat → Bool} {t : Nat → Nat} (h : OR v r p n t) (hm : ∀ k, p k = true → k < m) : n ≤ m := by
  obtain ⟨n', t', l, h'⟩ := OR_ex v r p m
  have := OR_one h (OR_cg h' (fun k => by
    cases e : p k
    · simp
    · simp [hm k e]))
  omega
section Or
variable {I : mj_I}
theorem sub_pos {a b : Nat} (ha : a < 2 ^ 30) (hb : b < 2 ^ 30) : (0 < nI a - nI b ↔ b < a) ∧ (nI a - nI b = 0 ↔ a = b) := by
  have h := pk_sub_toInt ha hb
  refine ⟨?_, ?_⟩
  · rw [fa_lt, h]
    show (0 : Int) < _ ↔ _
    omega
  · rw [fa_eq, h]
    show _ = (0 : Int) ↔ _
    omega
theorem C_X10_isBehind (hI : IV (I 314)) {a b r : Nat} (ha : a < 8) (hb : b < 8) (hea : vk (I 314) a 4 = 1) (heb : vk (I 314) b 4 = 1) (hr : r < 3) (hab : a < b) : mj_R D_X10_isBehind [.inr (some 313), .inl (nI a), .inl (nI b), .inl (nI r)] (mj_w I) (mj_ex (some (.inl (bi (decide (rkI (I 314) r b < rkI (I 314) r a))))) I) := by
  have m0 := s_313
  have m1 := s_314
  obtain ⟨-, -, -, -, -, -, -, -, -, -, -, wa, -⟩ := hI.wv ha hea
  obtain ⟨-, -, -, -, -, -, -, -, -, -, -, wb, -⟩ := hI.wv hb heb
  have ga : I 314 (615 + 9 * a + 7) = nI (tn (vk (I 314) a 7)) := wa.1
  have gb : I 314 (615 + 9 * b + 7) = nI (tn (vk (I 314) b 7)) := wb.1
  have la := wa.2
  have lb := wb.2
  obtain ⟨na, nla⟩ := need_N hI ha hea
  obtain ⟨nb, nlb⟩ := need_N hI hb heb
  have hva := C_X10_v (I := I) (k := a) (f := 7)
  have hvb := C_X10_v (I := I) (k := b) (f := 7)
  have hna := C_X10_need hI ha hea
  have hnb := C_X10_need hI hb heb
  rw [na] at hna
  rw [nb] at hnb
  refine mj_enter (by decide +kernel) (Nat.le_of_ble_eq_true rfl) ?_
  have tail : ∀ (x : Int32) (P : Prop) [Decidable P] (q4 : Option mj_V), (0 < x ↔ P) → mj_J D_X10_isBehind (mj_ex (some (.inl (bi (decide P)))) I) 50 [some (.inr (some 313)), some (.inl (nI a)), some (.inl (nI b)), some (.inl (nI r)), q4] [.inl x] (mj_w I) (0, 0) := by
    intro x P _ q4 hx
    refine J_ist S_X10_isBehind rfl rfl ?_
    refine J_ild S_X10_isBehind rfl rfl ?_
    refine J_if S_X10_isBehind rfl (fun c54 => ?_) (fun c54 => ?_)
    · refine J_C S_X10_isBehind rfl ?_
      refine J_goto S_X10_isBehind rfl ?_
      refine J_retZ S_X10_isBehind rfl (by decide) ?_
      rw [decide_eq_true (hx.mp c54)]; exact ⟨rfl, rfl⟩
    · refine J_ild S_X10_isBehind rfl rfl ?_
      refine J_if S_X10_isBehind rfl (fun c59 => ?_) (fun c59 => ?_)
      · refine J_C S_X10_isBehind rfl ?_
        refine J_retZ S_X10_isBehind rfl (by decide) ?_
        rw [decide_eq_false (fun h => c54 (hx.mpr h))]; exact ⟨rfl, rfl⟩
      · refine J_ild S_X10_isBehind rfl rfl ?_
        refine J_ild S_X10_isBehind rfl rfl ?_
        refine J_cmp S_X10_isBehind rfl (fun c64 => ?_) (fun c64 => False.elim (c64 (nI_le (by omega) (by omega))))
        refine J_C S_X10_isBehind rfl ?_
        refine J_retZ S_X10_isBehind rfl (by decide) ?_
        rw [decide_eq_false (fun h => c54 (hx.mpr h))]; exact ⟨rfl, rfl⟩
  have hr3 : r = 0 ∨ r = 1 ∨ r = 2 := by omega
  rcases hr3 with rfl | rfl | rfl
  · refine J_ild S_X10_isBehind rfl rfl ?_
    refine J_if S_X10_isBehind rfl (fun c1 => False.elim (c1 rfl)) (fun c1 => ?_)
    refine J_C S_X10_isBehind rfl ?_
    refine J_goto S_X10_isBehind rfl ?_
    refine tail 0 _ none ?_
    constructor
    · intro h; exact absurd h (by decide)
    · intro h; unfold rkI at h; rw [if_neg (by decide), if_neg (by decide), if_neg (by decide), if_neg (by decide)] at h; omega
  · refine J_ild S_X10_isBehind rfl rfl ?_
    refine J_if S_X10_isBehind rfl (fun c1 => ?_) (fun c1 => False.elim (absurd c1 (by decide)))
    refine J_ild S_X10_isBehind rfl rfl ?_
    refine J_C S_X10_isBehind rfl ?_
    refine J_cmp S_X10_isBehind rfl (fun c10 => False.elim (c10 rfl)) (fun c10 => ?_)
    refine J_ald S_X10_isBehind rfl rfl ?_
    refine J_getR S_X10_isBehind rfl (o' := 314) (by assumption) (by omega) rfl ?_
    refine J_ild S_X10_isBehind rfl rfl ?_
    refine J_C S_X10_isBehind rfl ?_
    refine J_CSx S_X10_isBehind rfl rfl (by simp) (hvb) rfl ?_
    refine J_iald S_X10_isBehind rfl (by assumption) (by omega) rfl (by omega) (by decide) ?_
    rw [gb]
    refine J_ald S_X10_isBehind rfl rfl ?_
    refine J_getR S_X10_isBehind rfl (o' := 314) (by assumption) (by omega) rfl ?_
    refine J_ild S_X10_isBehind rfl rfl ?_
    refine J_C S_X10_isBehind rfl ?_
    refine J_CSx S_X10_isBehind rfl rfl (by simp) (hva) rfl ?_
    refine J_iald S_X10_isBehind rfl (by assumption) (by omega) rfl (by omega) (by decide) ?_
    rw [ga]
    refine J_bin S_X10_isBehind rfl ?_
    refine J_goto S_X10_isBehind rfl ?_
    refine tail _ _ none ?_
    rw [(sub_pos (by omega) (by omega)).1]
    unfold rkI
    rw [if_pos rfl, if_pos rfl]
    omega
  · refine J_ild S_X10_isBehind rfl rfl ?_
    refine J_if S_X10_isBehind rfl (fun c1 => ?_) (fun c1 => False.elim (absurd c1 (by decide)))
    refine J_ild S_X10_isBehind rfl rfl ?_
    refine J_C S_X10_isBehind rfl ?_
    refine J_cmp S_X10_isBehind rfl (fun c10 => ?_) (fun c10 => False.elim (absurd c10 (by decide)))
    refine J_ald S_X10_isBehind rfl rfl ?_
    refine J_ild S_X10_isBehind rfl rfl ?_
    refine J_CVx S_X10_isBehind rfl rfl (by assumption) (by omega) (by simp) (hna) rfl ?_
    refine J_ald S_X10_isBehind rfl rfl ?_
    refine J_ild S_X10_isBehind rfl rfl ?_
    refine J_CVx S_X10_isBehind rfl rfl (by assumption) (by omega) (by simp) (hnb) rfl ?_
    refine J_bin S_X10_isBehind rfl ?_
    refine tail _ _ none ?_
    rw [(sub_pos (by omega) (by omega)).1]
    unfold rkI
    rw [if_neg (by decide), if_pos rfl, if_neg (by decide), if_pos rfl]
    omega
theorem C_X10_laysTurns (hI : IV (I 314)) {r n : Nat} {t : Nat → Nat} (hr : r < 3) (hO : OR (I 314) r (wt (I 314)) n t) : mj_R D_X10_laysTurns [.inr (some 313), .inl (nI r)] (mj_w I) (mj_px (fun a I' => a = some (.inl (nI n)) ∧ (∀ o, o ≠ 320 → I' o = I o) ∧ ∀ i, i < n → I' 320 i = nI (t i))) := by
  have m0 := s_313
  have m1 := s_314
  have m7 := s_320
  obtain ⟨df, hdf, hdl⟩ : ∃ d, I 314 1 = nI d ∧ d ≤ 8 := ⟨_, hI.2.1.1, hI.2.1.2⟩
  have hdt : tn (I 314 1) = df := by rw [hdf, tn_nI (by omega)]
  refine mj_enter (by decide +kernel) (Nat.le_of_ble_eq_true rfl) ?_
  have wt8 : ∀ k, wt (I 314) k = true → k < df := fun k h => by
    unfold wt at h
    simp only [Bool.and_eq_true, decide_eq_true_eq] at h
    have := hI.ex h.1 (by have h2 := h.2.1; unfold ex at h2; exact of_decide_eq_true h2)
    omega
  have key : ∀ (s k m : Nat) (u : Nat → Nat) (I' : mj_I) (q4 : Option mj_V), k + s = df → OR (I 314) r (fun q => decide (q < k) && wt (I 314) q) m u → (∀ o, o ≠ 320 → I' o = I o) → (∀ i, i < m → I' 320 i = nI (u i)) →
      mj_J D_X10_laysTurns (mj_px (fun a I' => a = some (.inl (nI n)) ∧ (∀ o, o ≠ 320 → I' o = I o) ∧ ∀ i, i < n → I' 320 i = nI (t i))) 4 [some (.inr (some 313)), some (.inl (nI r)), some (.inl (nI m)), some (.inl (nI k)), q4] [] (mj_w I') (0, 0) := by
    intro s
    induction s with
    | zero =>
      intro k m u I' q4 hk hOu hF hU
      obtain rfl : k = df := by omega
      have g1 : I' 314 1 = nI k := by rw [hF 314 (by decide)]; exact hdf
      obtain ⟨rfl, e⟩ := OR_one hO (OR_cg hOu (fun q => by
        cases e : wt (I 314) q
        · simp
        · simp [wt8 q e]))
      refine J_ild S_X10_laysTurns rfl rfl ?_
      refine J_ald S_X10_laysTurns rfl rfl ?_
      refine J_getR S_X10_laysTurns rfl (o' := 314) (by assumption) (by omega) rfl ?_
      refine J_C S_X10_laysTurns rfl ?_
      refine J_iald S_X10_laysTurns rfl (by assumption) (by omega) (j := 1) rfl (by omega) (by decide) ?_
      rw [g1]
      refine J_cmp S_X10_laysTurns rfl (fun c11 => ?_) (fun c11 => False.elim (c11 (Int32.le_refl _)))
      refine J_ild S_X10_laysTurns rfl rfl ?_
      refine J_retI S_X10_laysTurns rfl ?_
      exact ⟨I', rfl, rfl, hF, fun i hi => by rw [hU i hi, e i hi]⟩
    | succ s ih =>
      intro k m u I' q4 hk hOu hF hU
      have hkd : k < df := by omega
      have hk8 : k < 8 := by omega
      have e314 : I' 314 = I 314 := hF 314 (by decide)
      have g1 : I' 314 1 = nI df := by rw [e314]; exact hdf
      have hI' : IV (I' 314) := by rw [e314]; exact hI
      have hiv := C_X10_isView (I := I') hI' (x := nI k)
      rw [isV_nI hk8, e314] at hiv
      have hib := C_X10_isBankrupt (I := I') hk8
      rw [e314] at hib
      have skip : wt (I 314) k = false → OR (I 314) r (fun q => decide (q < k + 1) && wt (I 314) q) m u := fun hw => OR_cg hOu (fun q => by
        by_cases e : q = k
        · subst e; simp [hw]
        · have : decide (q < k + 1) = decide (q < k) := by apply decide_eq_decide.mpr; omega
          rw [this])
      rcases hI.b01 hk8 with he | he
      · rw [ex_f he] at hiv
        refine J_ild S_X10_laysTurns rfl rfl ?_
        refine J_ald S_X10_laysTurns rfl rfl ?_
        refine J_getR S_X10_laysTurns rfl (o' := 314) (by assumption) (by omega) rfl ?_
        refine J_C S_X10_laysTurns rfl ?_
        refine J_iald S_X10_laysTurns rfl (by assumption) (by omega) (j := 1) rfl (by omega) (by decide) ?_
        rw [g1]
        refine J_cmp S_X10_laysTurns rfl (fun c11 => False.elim (nI_ge hkd (by omega) c11)) (fun c11 => ?_)
        refine J_ald S_X10_laysTurns rfl rfl ?_
        refine J_ild S_X10_laysTurns rfl rfl ?_
        refine J_CVx S_X10_laysTurns rfl rfl (by assumption) (by omega) (by simp) (hiv) rfl ?_
        refine J_if S_X10_laysTurns rfl (fun c19 => ?_) (fun c19 => False.elim (c19 rfl))
        refine J_inc S_X10_laysTurns rfl rfl rfl ?_
        refine J_goto S_X10_laysTurns rfl ?_
        rw [← nI_succ]
        exact ih (k + 1) m u I' _ (by omega) (skip (by unfold wt; rw [ex_f he]; simp)) hF hU
      · rw [ex_t he] at hiv
        have h5 : vk (I 314) k 5 = 0 ∨ vk (I 314) k 5 = 1 := by
          obtain ⟨-, -, -, -, -, -, -, -, -, w5, -⟩ := hI.wv hk8 he
          exact rg_01 w5
        rcases h5 with h5 | h5
        · rw [h5] at hib
          have hmk : m ≤ k := OR_le hOu (fun q hq => by simp only [Bool.and_eq_true, decide_eq_true_eq] at hq; exact hq.1)
          have hu : ∀ i, i < m → u i < k ∧ vk (I 314) (u i) 4 = 1 := fun i hi => by
            have := (hOu.2 (u i)).mpr ⟨i, hi, rfl⟩
            unfold wt ex at this
            simp only [Bool.and_eq_true, decide_eq_true_eq] at this
            exact ⟨this.1, this.2.2.1⟩
          have hwk : wt (I 314) k = true := by unfold wt; rw [ex_t he, h5, decide_eq_true hk8]; rfl
          have fin : ∀ (j : Nat) (I2 : mj_I), j ≤ m → (∀ o, o ≠ 320 → I2 o = I o) → (∀ i, i < j → I2 320 i = nI (u i)) → (∀ i, j < i → i ≤ m → I2 320 i = nI (u (i - 1))) → (∀ i, i < j → lx (I 314) r (u i) k) → (∀ i, j ≤ i → i < m → lx (I 314) r k (u i)) →
              mj_J D_X10_laysTurns (mj_px (fun a I' => a = some (.inl (nI n)) ∧ (∀ o, o ≠ 320 → I' o = I o) ∧ ∀ i, i < n → I' 320 i = nI (t i))) 81 [some (.inr (some 313)), some (.inl (nI r)), some (.inl (nI m)), some (.inl (nI k)), some (.inl (nI j))] [] (mj_w I2) (0, 0) := by
            intro j I2 hj hF2 ha hb h1 h2
            have g := ih (k + 1) (m + 1) (insT u j k) (mj_up I2 320 j (nI k)) (some (.inl (nI j))) (by omega) (OR_cg (OR_ins hOu hj h1 h2) (fun q => by
              by_cases e : q = k
              · subst e; simp [hwk]
              · have : decide (q < k + 1) = decide (q < k) := by apply decide_eq_decide.mpr; omega
                rw [this, decide_eq_false e, Bool.or_false])) (fun o ho => by rw [mj_up_ne ho]; exact hF2 o ho) (fun i hi => by
              rw [mj_up_eq]
              unfold insT
              by_cases e1 : i < j
              · rw [if_pos e1, up_n (by omega)]; exact ha i e1
              · rw [if_neg e1]
                by_cases e2 : i = j
                · rw [if_pos e2, e2, up_s]
                · rw [if_neg e2, up_n e2]; exact hb i (by omega) (by omega))
            refine J_ald S_X10_laysTurns rfl rfl ?_
            refine J_getR S_X10_laysTurns rfl (o' := 320) (by assumption) (by omega) rfl ?_
            refine J_ild S_X10_laysTurns rfl rfl ?_
            refine J_ild S_X10_laysTurns rfl rfl ?_
            refine J_iast S_X10_laysTurns rfl (by assumption) (by omega) rfl (by omega) (by decide) ?_
            refine J_inc S_X10_laysTurns rfl rfl rfl ?_
            refine J_inc S_X10_laysTurns rfl rfl rfl ?_
            refine J_goto S_X10_laysTurns rfl ?_
            rw [← nI_succ, ← nI_succ]
            exact g
          have inner : ∀ (j : Nat) (I2 : mj_I), j ≤ m → (∀ o, o ≠ 320 → I2 o = I o) → (∀ i, i < j → I2 320 i = nI (u i)) → (∀ i, j < i → i ≤ m → I2 320 i = nI (u (i - 1))) → (∀ i, j ≤ i → i < m → lx (I 314) r k (u i)) →
              mj_J D_X10_laysTurns (mj_px (fun a I' => a = some (.inl (nI n)) ∧ (∀ o, o ≠ 320 → I' o = I o) ∧ ∀ i, i < n → I' 320 i = nI (t i))) 36 [some (.inr (some 313)), some (.inl (nI r)), some (.inl (nI m)), some (.inl (nI k)), some (.inl (nI j))] [] (mj_w I2) (0, 0) := by
            intro j
            induction j with
            | zero =>
              intro I2 hj hF2 ha hb h2
              have g := fin 0 I2 hj hF2 ha hb (fun i h => absurd h (Nat.not_lt_zero i)) h2
              refine J_ild S_X10_laysTurns rfl rfl ?_
              refine J_if S_X10_laysTurns rfl (fun c38 => ?_) (fun c38 => False.elim (c38 (by decide)))
              exact g
            | succ j ihj =>
              intro I2 hj hF2 ha hb h2
              obtain ⟨hlt, hej⟩ := hu j (by omega)
              have e314' : I2 314 = I 314 := hF2 314 (by decide)
              have hbh := C_X10_isBehind (I := I2) (a := u j) (b := k) (r := r) (by rw [e314']; exact hI) (by omega) hk8 (by rw [e314']; exact hej) (by rw [e314']; exact he) hr hlt
              rw [e314'] at hbh
              have eu : I2 320 j = nI (u j) := ha j (by omega)
              have ep : nI (j + 1) - 1 = nI j := nI_pred j
              by_cases hd : rkI (I 314) r k < rkI (I 314) r (u j)
              · rw [decide_eq_true hd] at hbh
                have g := ihj (mj_up I2 320 (j + 1) (nI (u j))) (by omega) (fun o ho => by rw [mj_up_ne ho]; exact hF2 o ho) (fun i hi => by rw [mj_up_eq, up_n (by omega)]; exact ha i (by omega)) (fun i h1 hm => by
                  rw [mj_up_eq]
                  by_cases e : i = j + 1
                  · rw [e, up_s]; rfl
                  · rw [up_n e]; exact hb i (by omega) hm) (fun i h1 hm => by
                  by_cases e : i = j
                  · rw [e]; exact Or.inl hd
                  · exact h2 i (by omega) hm)
                refine J_ild S_X10_laysTurns rfl rfl ?_
                refine J_if S_X10_laysTurns rfl (fun c38 => False.elim (nI_nle (by omega) (by omega) c38)) (fun c38 => ?_)
                refine J_ald S_X10_laysTurns rfl rfl ?_
                refine J_ald S_X10_laysTurns rfl rfl ?_
                refine J_getR S_X10_laysTurns rfl (o' := 320) (by assumption) (by omega) rfl ?_
                refine J_ild S_X10_laysTurns rfl rfl ?_
                refine J_C S_X10_laysTurns rfl ?_
                refine J_bin S_X10_laysTurns rfl ?_
                rw [ep]
                refine J_iald S_X10_laysTurns rfl (by assumption) (by omega) (j := j) rfl (by omega) (by decide) ?_
                rw [eu]
                refine J_ild S_X10_laysTurns rfl rfl ?_
                refine J_ild S_X10_laysTurns rfl rfl ?_
                refine J_CVx S_X10_laysTurns rfl rfl (by assumption) (by omega) (by simp) (hbh) rfl ?_
                refine J_if S_X10_laysTurns rfl (fun c56 => False.elim (absurd c56 (by decide))) (fun c56 => ?_)
                refine J_ald S_X10_laysTurns rfl rfl ?_
                refine J_getR S_X10_laysTurns rfl (o' := 320) (by assumption) (by omega) rfl ?_
                refine J_ild S_X10_laysTurns rfl rfl ?_
                refine J_ald S_X10_laysTurns rfl rfl ?_
                refine J_getR S_X10_laysTurns rfl (o' := 320) (by assumption) (by omega) rfl ?_
                refine J_ild S_X10_laysTurns rfl rfl ?_
                refine J_C S_X10_laysTurns rfl ?_
                refine J_bin S_X10_laysTurns rfl ?_
                rw [ep]
                refine J_iald S_X10_laysTurns rfl (by assumption) (by omega) (j := j) rfl (by omega) (by decide) ?_
                rw [eu]
                refine J_iast S_X10_laysTurns rfl (by assumption) (by omega) (j := j + 1) rfl (by omega) (by decide) ?_
                refine J_inc S_X10_laysTurns rfl rfl rfl ?_
                refine J_goto S_X10_laysTurns rfl ?_
                rw [pk_m1]
                exact g
              · rw [decide_eq_false hd] at hbh
                have g := fin (j + 1) I2 hj hF2 ha hb (fun i hi => by
                  have q : lx (I 314) r (u j) k := by unfold lx; omega
                  by_cases e : i = j
                  · rw [e]; exact q
                  · exact lx_tr (hOu.1 i j (by omega) (by omega)) q) h2
                refine J_ild S_X10_laysTurns rfl rfl ?_
                refine J_if S_X10_laysTurns rfl (fun c38 => False.elim (nI_nle (by omega) (by omega) c38)) (fun c38 => ?_)
                refine J_ald S_X10_laysTurns rfl rfl ?_
                refine J_ald S_X10_laysTurns rfl rfl ?_
                refine J_getR S_X10_laysTurns rfl (o' := 320) (by assumption) (by omega) rfl ?_
                refine J_ild S_X10_laysTurns rfl rfl ?_
                refine J_C S_X10_laysTurns rfl ?_
                refine J_bin S_X10_laysTurns rfl ?_
                rw [ep]
                refine J_iald S_X10_laysTurns rfl (by assumption) (by omega) (j := j) rfl (by omega) (by decide) ?_
                rw [eu]
                refine J_ild S_X10_laysTurns rfl rfl ?_
                refine J_ild S_X10_laysTurns rfl rfl ?_
                refine J_CVx S_X10_laysTurns rfl rfl (by assumption) (by omega) (by simp) (hbh) rfl ?_
                refine J_if S_X10_laysTurns rfl (fun c56 => ?_) (fun c56 => False.elim (c56 rfl))
                exact g
          have g := inner m I' (Nat.le_refl m) hF hU (fun i h1 h2 => by omega) (fun i h1 h2 => by omega)
          refine J_ild S_X10_laysTurns rfl rfl ?_
          refine J_ald S_X10_laysTurns rfl rfl ?_
          refine J_getR S_X10_laysTurns rfl (o' := 314) (by assumption) (by omega) rfl ?_
          refine J_C S_X10_laysTurns rfl ?_
          refine J_iald S_X10_laysTurns rfl (by assumption) (by omega) (j := 1) rfl (by omega) (by decide) ?_
          rw [g1]
          refine J_cmp S_X10_laysTurns rfl (fun c11 => False.elim (nI_ge hkd (by omega) c11)) (fun c11 => ?_)
          refine J_ald S_X10_laysTurns rfl rfl ?_
          refine J_ild S_X10_laysTurns rfl rfl ?_
          refine J_CVx S_X10_laysTurns rfl rfl (by assumption) (by omega) (by simp) (hiv) rfl ?_
          refine J_if S_X10_laysTurns rfl (fun c19 => False.elim (absurd c19 (by decide))) (fun c19 => ?_)
          refine J_ald S_X10_laysTurns rfl rfl ?_
          refine J_ild S_X10_laysTurns rfl rfl ?_
          refine J_CVx S_X10_laysTurns rfl rfl (by assumption) (by omega) (by simp) (hib) rfl ?_
          refine J_if S_X10_laysTurns rfl (fun c27 => ?_) (fun c27 => False.elim (c27 rfl))
          refine J_ild S_X10_laysTurns rfl rfl ?_
          refine J_ist S_X10_laysTurns rfl rfl ?_
          exact g
        · rw [h5] at hib
          refine J_ild S_X10_laysTurns rfl rfl ?_
          refine J_ald S_X10_laysTurns rfl rfl ?_
          refine J_getR S_X10_laysTurns rfl (o' := 314) (by assumption) (by omega) rfl ?_
          refine J_C S_X10_laysTurns rfl ?_
          refine J_iald S_X10_laysTurns rfl (by assumption) (by omega) (j := 1) rfl (by omega) (by decide) ?_
          rw [g1]
          refine J_cmp S_X10_laysTurns rfl (fun c11 => False.elim (nI_ge hkd (by omega) c11)) (fun c11 => ?_)
          refine J_ald S_X10_laysTurns rfl rfl ?_
          refine J_ild S_X10_laysTurns rfl rfl ?_
          refine J_CVx S_X10_laysTurns rfl rfl (by assumption) (by omega) (by simp) (hiv) rfl ?_
          refine J_if S_X10_laysTurns rfl (fun c19 => False.elim (absurd c19 (by decide))) (fun c19 => ?_)
          refine J_ald S_X10_laysTurns rfl rfl ?_
          refine J_ild S_X10_laysTurns rfl rfl ?_
          refine J_CVx S_X10_laysTurns rfl rfl (by assumption) (by omega) (by simp) (hib) rfl ?_
          refine J_if S_X10_laysTurns rfl (fun c27 => False.elim (absurd c27 (by decide))) (fun c27 => ?_)
          refine J_goto S_X10_laysTurns rfl ?_
          refine J_inc S_X10_laysTurns rfl rfl rfl ?_
          refine J_goto S_X10_laysTurns rfl ?_
          rw [← nI_succ]
          exact ih (k + 1) m u I' _ (by omega) (skip (by unfold wt; rw [h5]; simp)) hF hU
  refine J_C S_X10_laysTurns rfl ?_
  refine J_ist S_X10_laysTurns rfl rfl ?_
  refine J_C S_X10_laysTurns rfl ?_
  refine J_ist S_X10_laysTurns rfl rfl ?_
  exact key df 0 0 (fun _ => 0) I none (by omega) ⟨fun i j _ h => absurd h (Nat.not_lt_zero j), fun k => by simp⟩ (fun _ _ => rfl) (fun i h => absurd h (Nat.not_lt_zero i))
end Or
