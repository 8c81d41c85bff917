def isL (x : Int32) : Bool := decide (97 ≤ x) && decide (x ≤ 122)
def isD (x : Int32) : Bool := decide (48 ≤ x) && decide (x ≤ 57)
def isSR (x y : Int32) : Bool := (isL x && isL y) || (isD x && isD y)
/-- the end of a run, with at most n steps -/
def rnE (p : Nat → Bool) : Nat → Nat → Nat
  | 0, i => i
  | n + 1, i => if p i = true then rnE p n (i + 1) else i
theorem rnE_le (p : Nat → Bool) : ∀ n i, i ≤ rnE p n i ∧ rnE p n i ≤ i + n
  | 0, i => ⟨Nat.le_refl i, Nat.le_refl i⟩
  | n + 1, i => by
    rw [rnE]
    split
    · have := rnE_le p n (i + 1)
      omega
    · omega
theorem rnE_in (p : Nat → Bool) : ∀ n i j, i ≤ j → j < rnE p n i → p j = true
  | 0, i, j, h1, h2 => absurd h2 (Nat.not_lt.mpr h1)
  | n + 1, i, j, h1, h2 => by
    rw [rnE] at h2
    by_cases c : p i = true
    · rw [if_pos c] at h2
      by_cases e : j = i
      · rw [e]; exact c
      · exact rnE_in p n (i + 1) j (by omega) h2
    · rw [if_neg c] at h2; omega
theorem rnE_out (p : Nat → Bool) : ∀ n i, rnE p n i < i + n → p (rnE p n i) = false
  | 0, i, h => absurd h (Nat.lt_irrefl i)
  | n + 1, i, h => by
    rw [rnE] at h ⊢
    by_cases c : p i = true
    · rw [if_pos c] at h ⊢
      exact rnE_out p n (i + 1) (by omega)
    · rw [if_neg c]
      exact Bool.eq_false_iff.mpr c
theorem rnE_cg {p q : Nat → Bool} : ∀ n i, (∀ j, i ≤ j → j < i + n → p j = q j) → rnE p n i = rnE q n i
  | 0, i, _ => rfl
  | n + 1, i, h => by
    rw [rnE, rnE, h i (by omega) (by omega), rnE_cg n (i + 1) (fun j a b => h j (by omega) (by omega))]
def skp (f : Nat → Int32) (L i : Nat) : Nat := rnE (fun j => decide (f j = 32)) (L - i) i
def tkn (f : Nat → Int32) (L s : Nat) : Nat := if s < L then rnE (fun j => isSR (f s) (f j)) (L - (s + 1)) (s + 1) else s
section Rd
variable {I : mj_I}
theorem C_X3_isLetter {x : Int32} : mj_R D_X3_isLetter [.inl x] (mj_w I) (mj_ex (some (.inl (bi (isL x)))) I) := by
  refine mj_enter (by decide +kernel) (Nat.le_of_ble_eq_true rfl) ?_
  unfold isL
  by_cases a : 97 ≤ x
  · by_cases c : x ≤ 122
    · rw [decide_eq_true a, decide_eq_true c]
      refine J_ild S_X3_isLetter rfl rfl ?_
      refine J_C S_X3_isLetter rfl ?_
      refine J_cmp S_X3_isLetter rfl (fun c3 => False.elim (Int32.not_lt.mpr a c3)) (fun c3 => ?_)
      refine J_ild S_X3_isLetter rfl rfl ?_
      refine J_C S_X3_isLetter rfl ?_
      refine J_cmp S_X3_isLetter rfl (fun c9 => False.elim (Int32.not_lt.mpr c c9)) (fun c9 => ?_)
      refine J_C S_X3_isLetter rfl ?_
      refine J_goto S_X3_isLetter rfl ?_
      refine J_retZ S_X3_isLetter rfl (by decide) ?_
      exact ⟨rfl, rfl⟩
    · rw [decide_eq_true a, decide_eq_false c]
      refine J_ild S_X3_isLetter rfl rfl ?_
      refine J_C S_X3_isLetter rfl ?_
      refine J_cmp S_X3_isLetter rfl (fun c3 => False.elim (Int32.not_lt.mpr a c3)) (fun c3 => ?_)
      refine J_ild S_X3_isLetter rfl rfl ?_
      refine J_C S_X3_isLetter rfl ?_
      refine J_cmp S_X3_isLetter rfl (fun c9 => ?_) (fun c9 => False.elim (c9 (Int32.not_le.mp c)))
      refine J_C S_X3_isLetter rfl ?_
      refine J_retZ S_X3_isLetter rfl (by decide) ?_
      exact ⟨rfl, rfl⟩
  · rw [decide_eq_false a]
    refine J_ild S_X3_isLetter rfl rfl ?_
    refine J_C S_X3_isLetter rfl ?_
    refine J_cmp S_X3_isLetter rfl (fun c3 => ?_) (fun c3 => False.elim (c3 (Int32.not_le.mp a)))
    refine J_C S_X3_isLetter rfl ?_
    refine J_retZ S_X3_isLetter rfl (by decide) ?_
    exact ⟨rfl, rfl⟩
theorem C_X3_isDigit {x : Int32} : mj_R D_X3_isDigit [.inl x] (mj_w I) (mj_ex (some (.inl (bi (isD x)))) I) := by
  refine mj_enter (by decide +kernel) (Nat.le_of_ble_eq_true rfl) ?_
  unfold isD
  by_cases a : 48 ≤ x
  · by_cases c : x ≤ 57
    · rw [decide_eq_true a, decide_eq_true c]
      refine J_ild S_X3_isDigit rfl rfl ?_
      refine J_C S_X3_isDigit rfl ?_
      refine J_cmp S_X3_isDigit rfl (fun c3 => False.elim (Int32.not_lt.mpr a c3)) (fun c3 => ?_)
      refine J_ild S_X3_isDigit rfl rfl ?_
      refine J_C S_X3_isDigit rfl ?_
      refine J_cmp S_X3_isDigit rfl (fun c9 => False.elim (Int32.not_lt.mpr c c9)) (fun c9 => ?_)
      refine J_C S_X3_isDigit rfl ?_
      refine J_goto S_X3_isDigit rfl ?_
      refine J_retZ S_X3_isDigit rfl (by decide) ?_
      exact ⟨rfl, rfl⟩
    · rw [decide_eq_true a, decide_eq_false c]
      refine J_ild S_X3_isDigit rfl rfl ?_
      refine J_C S_X3_isDigit rfl ?_
      refine J_cmp S_X3_isDigit rfl (fun c3 => False.elim (Int32.not_lt.mpr a c3)) (fun c3 => ?_)
      refine J_ild S_X3_isDigit rfl rfl ?_
      refine J_C S_X3_isDigit rfl ?_
      refine J_cmp S_X3_isDigit rfl (fun c9 => ?_) (fun c9 => False.elim (c9 (Int32.not_le.mp c)))
      refine J_C S_X3_isDigit rfl ?_
      refine J_retZ S_X3_isDigit rfl (by decide) ?_
      exact ⟨rfl, rfl⟩
  · rw [decide_eq_false a]
    refine J_ild S_X3_isDigit rfl rfl ?_
    refine J_C S_X3_isDigit rfl ?_
    refine J_cmp S_X3_isDigit rfl (fun c3 => ?_) (fun c3 => False.elim (c3 (Int32.not_le.mp a)))
    refine J_C S_X3_isDigit rfl ?_
    refine J_retZ S_X3_isDigit rfl (by decide) ?_
    exact ⟨rfl, rfl⟩
theorem C_X3_isSameRun {x y : Int32} : mj_R D_X3_isSameRun [.inl x, .inl y] (mj_w I) (mj_ex (some (.inl (bi (isSR x y)))) I) := by
  have h1 := C_X3_isLetter (I := I) (x := x)
  have h2 := C_X3_isLetter (I := I) (x := y)
  have h3 := C_X3_isDigit (I := I) (x := x)
  have h4 := C_X3_isDigit (I := I) (x := y)
  refine mj_enter (by decide +kernel) (Nat.le_of_ble_eq_true rfl) ?_
  unfold isSR
  cases a : isL x <;> rw [a] at h1
  · cases c : isD x <;> rw [c] at h3
    · refine J_ild S_X3_isSameRun rfl rfl ?_
      refine J_CSx S_X3_isSameRun rfl rfl (by simp) (h1) rfl ?_
      refine J_if S_X3_isSameRun rfl (fun c4 => ?_) (fun c4 => False.elim (c4 rfl))
      refine J_ild S_X3_isSameRun rfl rfl ?_
      refine J_CSx S_X3_isSameRun rfl rfl (by simp) (h3) rfl ?_
      refine J_if S_X3_isSameRun rfl (fun c18 => ?_) (fun c18 => False.elim (c18 rfl))
      refine J_C S_X3_isSameRun rfl ?_
      refine J_retZ S_X3_isSameRun rfl (by decide) ?_
      exact ⟨rfl, rfl⟩
    · cases d : isD y <;> rw [d] at h4
      · refine J_ild S_X3_isSameRun rfl rfl ?_
        refine J_CSx S_X3_isSameRun rfl rfl (by simp) (h1) rfl ?_
        refine J_if S_X3_isSameRun rfl (fun c4 => ?_) (fun c4 => False.elim (c4 rfl))
        refine J_ild S_X3_isSameRun rfl rfl ?_
        refine J_CSx S_X3_isSameRun rfl rfl (by simp) (h3) rfl ?_
        refine J_if S_X3_isSameRun rfl (fun c18 => False.elim (absurd c18 (by decide))) (fun c18 => ?_)
        refine J_ild S_X3_isSameRun rfl rfl ?_
        refine J_CSx S_X3_isSameRun rfl rfl (by simp) (h4) rfl ?_
        refine J_if S_X3_isSameRun rfl (fun c25 => ?_) (fun c25 => False.elim (c25 rfl))
        refine J_C S_X3_isSameRun rfl ?_
        refine J_retZ S_X3_isSameRun rfl (by decide) ?_
        exact ⟨rfl, rfl⟩
      · refine J_ild S_X3_isSameRun rfl rfl ?_
        refine J_CSx S_X3_isSameRun rfl rfl (by simp) (h1) rfl ?_
        refine J_if S_X3_isSameRun rfl (fun c4 => ?_) (fun c4 => False.elim (c4 rfl))
        refine J_ild S_X3_isSameRun rfl rfl ?_
        refine J_CSx S_X3_isSameRun rfl rfl (by simp) (h3) rfl ?_
        refine J_if S_X3_isSameRun rfl (fun c18 => False.elim (absurd c18 (by decide))) (fun c18 => ?_)
        refine J_ild S_X3_isSameRun rfl rfl ?_
        refine J_CSx S_X3_isSameRun rfl rfl (by simp) (h4) rfl ?_
        refine J_if S_X3_isSameRun rfl (fun c25 => False.elim (absurd c25 (by decide))) (fun c25 => ?_)
        refine J_C S_X3_isSameRun rfl ?_
        refine J_goto S_X3_isSameRun rfl ?_
        refine J_retZ S_X3_isSameRun rfl (by decide) ?_
        exact ⟨rfl, rfl⟩
  · cases e : isL y <;> rw [e] at h2
    · cases c : isD x <;> rw [c] at h3
      · refine J_ild S_X3_isSameRun rfl rfl ?_
        refine J_CSx S_X3_isSameRun rfl rfl (by simp) (h1) rfl ?_
        refine J_if S_X3_isSameRun rfl (fun c4 => False.elim (absurd c4 (by decide))) (fun c4 => ?_)
        refine J_ild S_X3_isSameRun rfl rfl ?_
        refine J_CSx S_X3_isSameRun rfl rfl (by simp) (h2) rfl ?_
        refine J_if S_X3_isSameRun rfl (fun c11 => False.elim (c11 rfl)) (fun c11 => ?_)
        refine J_ild S_X3_isSameRun rfl rfl ?_
        refine J_CSx S_X3_isSameRun rfl rfl (by simp) (h3) rfl ?_
        refine J_if S_X3_isSameRun rfl (fun c18 => ?_) (fun c18 => False.elim (c18 rfl))
        refine J_C S_X3_isSameRun rfl ?_
        refine J_retZ S_X3_isSameRun rfl (by decide) ?_
        exact ⟨rfl, rfl⟩
      · cases d : isD y <;> rw [d] at h4
        · refine J_ild S_X3_isSameRun rfl rfl ?_
          refine J_CSx S_X3_isSameRun rfl rfl (by simp) (h1) rfl ?_
          refine J_if S_X3_isSameRun rfl (fun c4 => False.elim (absurd c4 (by decide))) (fun c4 => ?_)
          refine J_ild S_X3_isSameRun rfl rfl ?_
          refine J_CSx S_X3_isSameRun rfl rfl (by simp) (h2) rfl ?_
          refine J_if S_X3_isSameRun rfl (fun c11 => False.elim (c11 rfl)) (fun c11 => ?_)
          refine J_ild S_X3_isSameRun rfl rfl ?_
          refine J_CSx S_X3_isSameRun rfl rfl (by simp) (h3) rfl ?_
          refine J_if S_X3_isSameRun rfl (fun c18 => False.elim (absurd c18 (by decide))) (fun c18 => ?_)
          refine J_ild S_X3_isSameRun rfl rfl ?_
          refine J_CSx S_X3_isSameRun rfl rfl (by simp) (h4) rfl ?_
          refine J_if S_X3_isSameRun rfl (fun c25 => ?_) (fun c25 => False.elim (c25 rfl))
          refine J_C S_X3_isSameRun rfl ?_
          refine J_retZ S_X3_isSameRun rfl (by decide) ?_
          exact ⟨rfl, rfl⟩
        · refine J_ild S_X3_isSameRun rfl rfl ?_
          refine J_CSx S_X3_isSameRun rfl rfl (by simp) (h1) rfl ?_
          refine J_if S_X3_isSameRun rfl (fun c4 => False.elim (absurd c4 (by decide))) (fun c4 => ?_)
          refine J_ild S_X3_isSameRun rfl rfl ?_
          refine J_CSx S_X3_isSameRun rfl rfl (by simp) (h2) rfl ?_
          refine J_if S_X3_isSameRun rfl (fun c11 => False.elim (c11 rfl)) (fun c11 => ?_)
          refine J_ild S_X3_isSameRun rfl rfl ?_
          refine J_CSx S_X3_isSameRun rfl rfl (by simp) (h3) rfl ?_
          refine J_if S_X3_isSameRun rfl (fun c18 => False.elim (absurd c18 (by decide))) (fun c18 => ?_)
          refine J_ild S_X3_isSameRun rfl rfl ?_
          refine J_CSx S_X3_isSameRun rfl rfl (by simp) (h4) rfl ?_
          refine J_if S_X3_isSameRun rfl (fun c25 => False.elim (absurd c25 (by decide))) (fun c25 => ?_)
          refine J_C S_X3_isSameRun rfl ?_
          refine J_goto S_X3_isSameRun rfl ?_
          refine J_retZ S_X3_isSameRun rfl (by decide) ?_
          exact ⟨rfl, rfl⟩
    · refine J_ild S_X3_isSameRun rfl rfl ?_
      refine J_CSx S_X3_isSameRun rfl rfl (by simp) (h1) rfl ?_
      refine J_if S_X3_isSameRun rfl (fun c4 => False.elim (absurd c4 (by decide))) (fun c4 => ?_)
      refine J_ild S_X3_isSameRun rfl rfl ?_
      refine J_CSx S_X3_isSameRun rfl rfl (by simp) (h2) rfl ?_
      refine J_if S_X3_isSameRun rfl (fun c11 => ?_) (fun c11 => False.elim (absurd c11 (by decide)))
      refine J_C S_X3_isSameRun rfl ?_
      refine J_goto S_X3_isSameRun rfl ?_
      refine J_retZ S_X3_isSameRun rfl (by decide) ?_
      exact ⟨rfl, rfl⟩
end Rd
