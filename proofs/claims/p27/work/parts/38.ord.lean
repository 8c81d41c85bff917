def needN (v : mv) (k : Nat) : Nat := tn (vk v k 7) + arr v k * prN v k
theorem arr_le (v : mv) (k : Nat) : arr v k ≤ tn (v 0) := by
  unfold arr
  split
  · omega
  · have := cnt_le (fun j => cs v k (cl v j)) (tn (vk v k 6)) (tn (v 0) - tn (vk v k 6))
    omega
theorem need_N {v : mv} (hI : IV v) {k : Nat} (hk : k < 8) (he : vk v k 4 = 1) : need v k = nI (needN v k) ∧ needN v k ≤ 8500 := by
  obtain ⟨-, -, -, -, -, -, -, -, -, -, -, w7, -⟩ := hI.wv hk he
  obtain ⟨p1, p2, p3⟩ := prc_N hI k
  have ha := arr_le v k
  have hl := hI.1.2
  have hm : arr v k * prN v k ≤ 200 * 40 := Nat.mul_le_mul (by omega) p3
  refine ⟨?_, by have := w7.2; unfold needN; omega⟩
  have h7 : vk v k 7 = nI (tn (vk v k 7)) := w7.1
  unfold need needN
  rw [p1, pk_mul, ← nI_add, ← h7]
def rkI (v : mv) (r k : Nat) : Int := if r = 1 then -(tn (vk v k 7) : Int) else if r = 2 then (needN v k : Int) else 0
def lx (v : mv) (r a b : Nat) : Prop := rkI v r a < rkI v r b ∨ (rkI v r a = rkI v r b ∧ a < b)
theorem lx_tr {v : mv} {r a b c : Nat} (h : lx v r a b) (h' : lx v r b c) : lx v r a c := by unfold lx at *; omega
theorem lx_ir {v : mv} {r a : Nat} (h : lx v r a a) : False := by unfold lx at h; omega
theorem lx_as {v : mv} {r a b : Nat} (h : lx v r a b) (h' : lx v r b a) : False := lx_ir (lx_tr h h')
theorem lx_to {v : mv} {r a b : Nat} (h : a ≠ b) : lx v r a b ∨ lx v r b a := by unfold lx; omega
/-- t names the n views of the set p in the order of a rule -/
def OR (v : mv) (r : Nat) (p : Nat → Bool) (n : Nat) (t : Nat → Nat) : Prop := (∀ i j, i < j → j < n → lx v r (t i) (t j)) ∧ ∀ k, p k = true ↔ ∃ i, i < n ∧ t i = k
theorem OR_one {v : mv} {r n n' : Nat} {p : Nat → Bool} {t t' : Nat → Nat} (h : OR v r p n t) (h' : OR v r p n' t') : n = n' ∧ ∀ i, i < n → t i = t' i := by
  have dis : ∀ {n : Nat} {t : Nat → Nat}, OR v r p n t → ∀ i j, i < n → j < n → t i = t j → i = j := by
    intro n t h i j hi hj e
    rcases Nat.lt_trichotomy i j with g | g | g
    · have := h.1 i j g hj
      rw [e] at this
      exact (lx_ir this).elim
    · exact g
    · have := h.1 j i g hi
      rw [e] at this
      exact (lx_ir this).elim
  have eq : ∀ i, i < n → i < n' → t i = t' i := by
    intro i
    induction i using Nat.strongRecOn with
    | ind i ih =>
      intro hi hi'
      obtain ⟨a, ha, ea⟩ := (h'.2 (t i)).mp ((h.2 (t i)).mpr ⟨i, hi, rfl⟩)
      obtain ⟨b, hb, eb⟩ := (h.2 (t' i)).mp ((h'.2 (t' i)).mpr ⟨i, hi', rfl⟩)
      have ga : i ≤ a := by
        rcases Nat.lt_or_ge a i with g | g
        · have := ih a g (by omega) ha
          rw [← this] at ea
          exact absurd (dis h a i (by omega) hi ea) (by omega)
        · exact g
      have gb : i ≤ b := by
        rcases Nat.lt_or_ge b i with g | g
        · have := ih b g hb (by omega)
          rw [this] at eb
          exact absurd (dis h' b i (by omega) hi' eb) (by omega)
        · exact g
      rcases Nat.eq_or_lt_of_le ga with g | g
      · rw [← g] at ea; exact ea.symm
      · rcases Nat.eq_or_lt_of_le gb with g2 | g2
        · rw [← g2] at eb; exact eb
        · have x1 := h'.1 i a g ha
          have x2 := h.1 i b g2 hb
          rw [ea] at x1
          rw [eb] at x2
          exact (lx_as x1 x2).elim
  have le : ∀ {n n' : Nat} {t t' : Nat → Nat}, OR v r p n t → OR v r p n' t' → (∀ i, i < n → i < n' → t i = t' i) → n' ≤ n := by
    intro n n' t t' h h' e
    rcases Nat.lt_or_ge n n' with g | g
    · obtain ⟨b, hb, eb⟩ := (h.2 (t' n)).mp ((h'.2 (t' n)).mpr ⟨n, g, rfl⟩)
      rw [e b hb (by omega)] at eb
      exact absurd (dis h' b n (by omega) g eb) (by omega)
    · exact g
  have l1 := le h h' eq
  have l2 := le h' h (fun i a b => (eq i b a).symm)
  have : n = n' := by omega
  subst this
  exact ⟨rfl, fun i hi => eq i hi hi⟩
def insT (t : Nat → Nat) (j k : Nat) : Nat → Nat := fun i => if i < j then t i else if i = j then k else t (i - 1)
theorem OR_ins {v : mv} {r n j k : Nat} {p : Nat → Bool} {t : Nat → Nat} (h : OR v r p n t) (hj : j ≤ n) (h1 : ∀ i, i < j → lx v r (t i) k) (h2 : ∀ i, j ≤ i → i < n → lx v r k (t i)) : OR v r (fun q => p q || decide (q = k)) (n + 1) (insT t j k) := by
  refine ⟨fun a b hab hb => ?_, fun q => ?_⟩
  · unfold insT
    by_cases ha1 : a < j
    · rw [if_pos ha1]
      by_cases hb1 : b < j
      · rw [if_pos hb1]; exact h.1 a b hab (by omega)
      · rw [if_neg hb1]
        by_cases hb2 : b = j
        · rw [if_pos hb2]; exact h1 a ha1
        · rw [if_neg hb2]; exact h.1 a (b - 1) (by omega) (by omega)
    · rw [if_neg ha1, if_neg (show ¬ b < j by omega), if_neg (show ¬ b = j by omega)]
      by_cases ha2 : a = j
      · rw [if_pos ha2]; exact h2 (b - 1) (by omega) (by omega)
      · rw [if_neg ha2]; exact h.1 (a - 1) (b - 1) (by omega) (by omega)
  · simp only [Bool.or_eq_true, decide_eq_true_eq]
    rw [h.2 q]
    unfold insT
    constructor
    · rintro (⟨i, hi, e⟩ | e)
      · by_cases hij : i < j
        · exact ⟨i, by omega, by rw [if_pos hij]; exact e⟩
        · exact ⟨i + 1, by omega, by rw [if_neg (by omega), if_neg (by omega), Nat.add_sub_cancel]; exact e⟩
      · exact ⟨j, by omega, by rw [if_neg (by omega), if_pos rfl]; exact e.symm⟩
    · rintro ⟨i, hi, e⟩
      by_cases hij : i < j
      · rw [if_pos hij] at e; exact Or.inl ⟨i, by omega, e⟩
      · rw [if_neg hij] at e
        by_cases hij2 : i = j
        · rw [if_pos hij2] at e; exact Or.inr e.symm
        · rw [if_neg hij2] at e; exact Or.inl ⟨i - 1, by omega, e⟩
theorem OR_pos {v : mv} {r k : Nat} {p : Nat → Bool} {t : Nat → Nat} {n : Nat} (h : OR v r p n t) (hk : p k = false) : ∀ m, m ≤ n → (∀ i, m ≤ i → i < n → lx v r k (t i)) → ∃ j, j ≤ n ∧ (∀ i, i < j → lx v r (t i) k) ∧ ∀ i, j ≤ i → i < n → lx v r k (t i)
  | 0, hm, hr => ⟨0, Nat.zero_le n, fun i hi => absurd hi (Nat.not_lt_zero i), hr⟩
  | m + 1, hm, hr => by
    have hne : t m ≠ k := fun e => by
      have := (h.2 k).mpr ⟨m, by omega, e⟩
      rw [hk] at this
      cases this
    rcases lx_to (v := v) (r := r) hne with g | g
    · refine ⟨m + 1, hm, fun i hi => ?_, hr⟩
      by_cases e : i = m
      · rw [e]; exact g
      · exact lx_tr (h.1 i m (by omega) (by omega)) g
    · refine OR_pos h hk m (by omega) (fun i h1 h2 => ?_)
      by_cases e : i = m
      · rw [e]; exact g
      · exact hr i (by omega) h2
theorem OR_ex (v : mv) (r : Nat) (p : Nat → Bool) : ∀ m, ∃ n t, n ≤ m ∧ OR v r (fun q => decide (q < m) && p q) n t
  | 0 => ⟨0, fun _ => 0, Nat.le_refl 0, fun i j _ h => absurd h (Nat.not_lt_zero j), fun k => by simp⟩
  | m + 1 => by
    obtain ⟨n, t, hnm, h⟩ := OR_ex v r p m
    cases hp : p m
    · refine ⟨n, t, by omega, h.1, fun k => ?_⟩
      rw [← h.2 k]
      by_cases e : k = m
      · subst e; simp [hp]
      · simp only [Bool.and_eq_true, decide_eq_true_eq]
        constructor
        · rintro ⟨a, b⟩; exact ⟨by omega, b⟩
        · rintro ⟨a, b⟩; exact ⟨by omega, b⟩
    · obtain ⟨j, hj, h1, h2⟩ := OR_pos h (k := m) (by simp) n (Nat.le_refl n) (fun i a b => absurd b (by omega))
      have h3 := OR_ins h hj h1 h2
      refine ⟨n + 1, insT t j m, by omega, h3.1, fun k => ?_⟩
      rw [← h3.2 k]
      by_cases e : k = m
      · subst e; simp [hp]
      · simp only [Bool.and_eq_true, Bool.or_eq_true, decide_eq_true_eq]
        constructor
        · rintro ⟨a, b⟩; exact Or.inl ⟨by omega, b⟩
        · rintro (⟨a, b⟩ | b)
          · exact ⟨by omega, b⟩
          · exact absurd b e
/-- who waits to be paid -/
def wt (v : mv) (k : Nat) : Bool := decide (k < 8) && (ex v k && decide (vk v k 5 = 0))
theorem OR_cg {v : mv} {r n : Nat} {p p' : Nat → Bool} {t : Nat → Nat} (h : OR v r p n t) (e : ∀ k, p k = p' k) : OR v r p' n t := ⟨h.1, fun k => by rw [← e k]; exact h.2 k⟩
theorem OR_le {v : mv} {r n m : Nat} {p : Nat → Bool} {t : Nat → Nat} (h : OR v r p n t) (hm : ∀ k, p k = true → k < m) : n ≤ m := by
  obtain ⟨n', t', l, h'⟩ := OR_ex v r p m
  have := OR_one h (OR_cg h' (fun k => by
    cases e : p k
    · simp
    · simp [hm k e]))
  omega
section Or
variable {I : mj_I}
theorem sub_pos {a b : Nat} (ha : a < 2 ^ 30) (hb : b < 2 ^ 30) : (0 < nI a - nI b ↔ b < a) ∧ (nI a - nI b = 0 ↔ a = b) := by
  have h := pk_sub_toInt ha hb
  refine ⟨?_, ?_⟩
  · rw [fa_lt, h]
    show (0 : Int) < _ ↔ _
    omega
  · rw [fa_eq, h]
    show _ = (0 : Int) ↔ _
    omega
end Or
