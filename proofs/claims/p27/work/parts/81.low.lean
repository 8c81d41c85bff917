/-! the law's small methods -/
def TXT (I J : mj_I) (l : List Int32) : Prop := (∀ q, q ≠ 2 → q ≠ 3 → J q = I q) ∧ J 2 1 = nI l.length ∧ ∀ j, j < l.length → J 3 j = l.getD j 0
theorem gd_l {l m : List Int32} {j : Nat} (h : j < l.length) : (l ++ m).getD j 0 = l.getD j 0 := by
  simp [List.getD, List.getElem?_append_left h]
theorem gd_r {l : List Int32} {a : Int32} : (l ++ [a]).getD l.length 0 = a := by
  simp [List.getD]
section Lo
variable {I J : mj_I} {l : List Int32}
theorem A_app {a : Int32} (h : TXT I J l) (ha : 1 ≤ a ∧ a ≤ 255) (hl : l.length < 40) : mj_R D_X9_append [.inr (some 0), .inl a] (mj_w J) (mj_px (fun r J' => (∃ x, r = some (.inl x)) ∧ TXT I J' (l ++ [a]))) := by
  refine R_ex (X9_append_ok ha hl h.2.1) ⟨⟨_, rfl⟩, fun q h2 h3 => ?_, ?_, fun j hj => ?_⟩
  · rw [mj_up_ne h2, mj_up_ne h3]; exact h.1 q h2 h3
  · rw [mj_up_eq, up_s, List.length_append]; rfl
  · rw [List.length_append, List.length_singleton] at hj
    rw [mj_up_ne (by decide), mj_up_eq]
    by_cases e : j = l.length
    · rw [e, up_s, gd_r]
    · rw [up_n e, h.2.2 j (by omega), gd_l (by omega)]
theorem A_clear {w p : mv} {o n L : Nat} {f : Nat → Int32} (h : CR I w p o n L f) : mj_R D_X9_clearText [.inr (some 0)] (mj_w I) (mj_px (fun r J' => (∃ x, r = some (.inl x)) ∧ TXT I J' [])) := by
  refine R_ex X9_clearText_ok ⟨⟨_, rfl⟩, fun q h2 h3 => mj_up_ne h2, ?_, fun j hj => absurd hj (Nat.not_lt_zero j)⟩
  rw [mj_up_eq, up_s]; exact nI_0.symm
theorem C_L_has {m i : Nat} (hm : m < 2 ^ 31) (hi : i < 31) : mj_R D_L_has [.inl (nI m), .inl (nI i)] (mj_w I) (mj_ex (some (.inl (bi (m.testBit i)))) I) := by
  have e : (nI m >>> (nI i &&& 31)) &&& 1 = nI (m / 2 ^ i % 2) := by
    rw [pk_shrN hm _ i (s_31 i hi), pk_andN (Nat.lt_of_le_of_lt (Nat.div_le_self _ _) (by omega)) 1 (by decide)]
  have e2 : m.testBit i = decide (m / 2 ^ i % 2 = 1) := Nat.testBit_eq_decide_div_mod_eq
  have h2 : m / 2 ^ i % 2 < 2 := Nat.mod_lt _ (by decide)
  refine mj_enter (by decide +kernel) (Nat.le_of_ble_eq_true rfl) ?_
  refine J_ild S_L_has rfl rfl ?_
  refine J_ild S_L_has rfl rfl ?_
  refine J_bin S_L_has rfl ?_
  refine J_C S_L_has rfl ?_
  refine J_bin S_L_has rfl ?_
  refine J_C S_L_has rfl ?_
  rw [e]
  refine J_cmp S_L_has rfl (fun c6 => ?_) (fun c6 => ?_)
  · refine J_C S_L_has rfl ?_
    refine J_retZ S_L_has rfl (by decide) ?_
    rw [e2, decide_eq_false (fun h => c6 (by rw [h]; rfl))]; exact ⟨rfl, rfl⟩
  · refine J_C S_L_has rfl ?_
    refine J_goto S_L_has rfl ?_
    refine J_retZ S_L_has rfl (by decide) ?_
    rw [e2, decide_eq_true ((nI_eq (b := 1) (by omega) (by decide)).mp c6)]; exact ⟨rfl, rfl⟩
def bsN (m : Nat) : Nat → Nat
  | 0 => 0
  | k + 1 => bsN m k + m / 2 ^ k % 2
theorem bsN_8 {m : Nat} (hm : m < 256) : bcF (nI m) = nI (bsN m 8) := by
  rw [bc_256 m hm]
  simp [bsN]
theorem C_L_bits {m : Nat} (hm : m < 256) : mj_R D_L_bits [.inl (nI m)] (mj_w I) (mj_ex (some (.inl (bcF (nI m)))) I) := by
  rw [bsN_8 hm]
  refine mj_enter (by decide +kernel) (Nat.le_of_ble_eq_true rfl) ?_
  have key : ∀ (s k : Nat), k + s = 8 → mj_J D_L_bits (mj_ex (some (.inl (nI (bsN m 8)))) I) 4 [some (.inl (nI m)), some (.inl (nI (bsN m k))), some (.inl (nI k))] [] (mj_w I) (0, 0) := by
    intro s
    induction s with
    | zero =>
      intro k hk
      obtain rfl : k = 8 := by omega
      refine J_ild S_L_bits rfl rfl ?_
      refine J_C S_L_bits rfl ?_
      refine J_cmp S_L_bits rfl (fun c7 => ?_) (fun c7 => False.elim (c7 (by decide)))
      refine J_ild S_L_bits rfl rfl ?_
      refine J_retI S_L_bits rfl ?_
      exact ⟨rfl, rfl⟩
    | succ s ih =>
      intro k hk
      have e : (nI m >>> (nI k &&& 31)) &&& 1 = nI (m / 2 ^ k % 2) := by
        rw [pk_shrN (by omega) _ k (s_31 k (by omega)), pk_andN (Nat.lt_of_le_of_lt (Nat.div_le_self _ _) (by omega)) 1 (by decide)]
      refine J_ild S_L_bits rfl rfl ?_
      refine J_C S_L_bits rfl ?_
      refine J_cmp S_L_bits rfl (fun c7 => False.elim (nI_ge (show k < 8 by omega) (by decide) c7)) (fun c7 => ?_)
      refine J_ild S_L_bits rfl rfl ?_
      refine J_ild S_L_bits rfl rfl ?_
      refine J_ild S_L_bits rfl rfl ?_
      refine J_bin S_L_bits rfl ?_
      refine J_C S_L_bits rfl ?_
      refine J_bin S_L_bits rfl ?_
      rw [e]
      refine J_bin S_L_bits rfl ?_
      refine J_ist S_L_bits rfl rfl ?_
      refine J_inc S_L_bits rfl rfl rfl ?_
      refine J_goto S_L_bits rfl ?_
      rw [nI_add, show nI k + 1 = nI (k + 1) from nI_add k 1]
      exact ih (k + 1) (by omega)
  refine J_C S_L_bits rfl ?_
  refine J_ist S_L_bits rfl rfl ?_
  refine J_C S_L_bits rfl ?_
  refine J_ist S_L_bits rfl rfl ?_
  exact key 8 0 rfl
def nmL (n : Nat) : List Int32 := if 9 < n then [nI (48 + n / 10)] ++ [nI (48 + n % 10)] else [nI (48 + n % 10)]
theorem nmL_le (n : Nat) : (nmL n).length ≤ 2 := by
  unfold nmL
  split <;> simp
theorem ch_ok {n : Nat} (h1 : 1 ≤ n) (h2 : n ≤ 255) : 1 ≤ nI n ∧ nI n ≤ 255 := ⟨nI_le (a := 1) h1 (by omega), nI_le (b := 255) h2 (by decide)⟩
theorem C_L_number {n : Nat} (h : TXT I J l) (hn : n < 100) (hl : l.length ≤ 36) : mj_R D_L_number [.inr (some 0), .inl (nI n)] (mj_w J) (mj_px (fun r J' => r = none ∧ TXT I J' (l ++ nmL n))) := by
  have m0 := s_0
  have ed : nI n / 10 = nI (n / 10) := pk_div (d := 10) (by omega) (by decide) (by decide)
  have er : nI n - nI n / 10 * 10 = nI (n % 10) := pk_rem (d := 10) (by omega) (by decide) (by decide)
  have e48 : ∀ k, (48 : Int32) + nI k = nI (48 + k) := fun k => nI_add 48 k
  have hm : n % 10 < 10 := Nat.mod_lt _ (by decide)
  refine mj_enter (by decide +kernel) (Nat.le_of_ble_eq_true rfl) ?_
  unfold nmL
  by_cases c : 9 < n
  · rw [if_pos c, ← List.append_assoc]
    refine J_ild S_L_number rfl rfl ?_
    refine J_C S_L_number rfl ?_
    refine J_cmp S_L_number rfl (fun c3 => False.elim (nI_ge c (by omega) c3)) (fun c3 => ?_)
    refine J_ald S_L_number rfl rfl ?_
    refine J_C S_L_number rfl ?_
    refine J_ild S_L_number rfl rfl ?_
    refine J_C S_L_number rfl ?_
    refine J_div S_L_number rfl (by decide) ?_
    rw [ed]
    refine J_bin S_L_number rfl ?_
    rw [e48]
    refine J_CV S_L_number rfl rfl (by assumption) (by omega) (by simp) (A_app h (ch_ok (by omega) (by omega)) (by omega)) ?_
    rintro _ _ ⟨J1, rfl, ⟨x, rfl⟩, h1⟩
    refine J_pop S_L_number rfl ?_
    refine J_ald S_L_number rfl rfl ?_
    refine J_C S_L_number rfl ?_
    refine J_ild S_L_number rfl rfl ?_
    refine J_C S_L_number rfl ?_
    refine J_div S_L_number rfl (by decide) ?_
    rw [er]
    refine J_bin S_L_number rfl ?_
    rw [e48]
    refine J_CV S_L_number rfl rfl (by assumption) (by omega) (by simp) (A_app h1 (ch_ok (by omega) (by omega)) (by rw [List.length_append, List.length_singleton]; omega)) ?_
    rintro _ _ ⟨J2, rfl, ⟨y, rfl⟩, h2⟩
    refine J_pop S_L_number rfl ?_
    refine J_retV S_L_number rfl ?_
    exact ⟨_, rfl, rfl, h2⟩
  · rw [if_neg c]
    refine J_ild S_L_number rfl rfl ?_
    refine J_C S_L_number rfl ?_
    refine J_cmp S_L_number rfl (fun c3 => ?_) (fun c3 => False.elim (c3 (nI_le (Nat.not_lt.mp c) (by decide))))
    refine J_ald S_L_number rfl rfl ?_
    refine J_C S_L_number rfl ?_
    refine J_ild S_L_number rfl rfl ?_
    refine J_C S_L_number rfl ?_
    refine J_div S_L_number rfl (by decide) ?_
    rw [er]
    refine J_bin S_L_number rfl ?_
    rw [e48]
    refine J_CV S_L_number rfl rfl (by assumption) (by omega) (by simp) (A_app h (ch_ok (by omega) (by omega)) (by omega)) ?_
    rintro _ _ ⟨J2, rfl, ⟨y, rfl⟩, h2⟩
    refine J_pop S_L_number rfl ?_
    refine J_retV S_L_number rfl ?_
    exact ⟨_, rfl, rfl, h2⟩
end Lo
