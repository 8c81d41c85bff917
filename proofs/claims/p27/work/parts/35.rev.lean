def sS (g : Nat → Int32) : Nat → Int32
  | 0 => 0
  | n + 1 => sS g n + g n
def mxS (g : Nat → Int32) : Nat → Int32
  | 0 => -1
  | n + 1 => if mxS g n < g n then g n else mxS g n
theorem i32_ab (a b c : Int32) : a + (b - c) = a + b - c := by rw [Int32.sub_eq_add_neg, Int32.sub_eq_add_neg, Int32.add_assoc]
theorem sS_up {g g' : Nat → Int32} {j N : Nat} (h : ∀ i, i < N → i ≠ j → g' i = g i) : ∀ n, n ≤ N → sS g' n = if j < n then sS g n + (g' j - g j) else sS g n
  | 0, _ => rfl
  | n + 1, hN => by
    rw [sS, sS, sS_up h n (by omega)]
    by_cases hj : j < n
    · rw [if_pos hj, if_pos (by omega), h n (by omega) (by omega), Int32.add_assoc, Int32.add_comm (g' j - g j), ← Int32.add_assoc]
    · rw [if_neg hj]
      by_cases hn : n = j
      · subst hn
        rw [if_pos (by omega), Int32.add_assoc]
        congr 1
        rw [i32_ab, Int32.add_comm, Int32.add_sub_cancel]
      · rw [if_neg (by omega), h n (by omega) hn]
theorem mxS_ge {g : Nat → Int32} : ∀ n i, i < n → g i ≤ mxS g n
  | 0, i, h => absurd h (Nat.not_lt_zero i)
  | n + 1, i, h => by
    rw [mxS]
    by_cases hi : i = n
    · subst hi
      split
      · exact Int32.le_refl _
      · rename_i h2; exact Int32.not_lt.mp h2
    · have h1 := mxS_ge (g := g) n i (by omega)
      split
      · rename_i h2; exact Int32.le_trans h1 (Int32.le_of_lt h2)
      · exact h1
theorem mxS_m1 {g : Nat → Int32} : ∀ n, (-1 : Int32) ≤ mxS g n
  | 0 => Int32.le_refl _
  | n + 1 => by
    rw [mxS]
    have h1 := mxS_m1 (g := g) n
    split
    · rename_i h2; exact Int32.le_trans h1 (Int32.le_of_lt h2)
    · exact h1
theorem mxS_at {g : Nat → Int32} : ∀ n, mxS g n = -1 ∨ ∃ i, i < n ∧ mxS g n = g i
  | 0 => Or.inl rfl
  | n + 1 => by
    rw [mxS]
    split
    · exact Or.inr ⟨n, by omega, rfl⟩
    · rcases mxS_at (g := g) n with h | ⟨i, h1, h2⟩
      · exact Or.inl h
      · exact Or.inr ⟨i, by omega, h2⟩
theorem mxS_is {g : Nat → Int32} {n : Nat} {m : Int32} (h1 : ∀ i, i < n → g i ≤ m) (h2 : -1 ≤ m) (h3 : m = -1 ∨ ∃ i, i < n ∧ m = g i) : mxS g n = m := by
  apply Int32.le_antisymm
  · rcases mxS_at (g := g) n with h | ⟨i, hi, h⟩
    · rw [h]; exact h2
    · rw [h]; exact h1 i hi
  · rcases h3 with h | ⟨i, hi, h⟩
    · rw [h]; exact mxS_m1 n
    · rw [h]; exact mxS_ge n i hi
def tmA (kd x y : Int32) : Int32 := if kd = 0 then (if x < 0 then 0 else x) else if kd = 1 then (if x < 0 then 0 else 1) else (if x < 0 ∨ y < 0 then 0 else x * y)
theorem tmA_0 (x y : Int32) : tmA 0 x y = if x < 0 then 0 else x := by unfold tmA; rw [if_pos rfl]
theorem tmA_1 (x y : Int32) : tmA 1 x y = if x < 0 then 0 else 1 := by unfold tmA; rw [if_neg (by decide), if_pos rfl]
theorem tmA_3 (x y : Int32) : tmA 3 x y = if x < 0 ∨ y < 0 then 0 else x * y := by unfold tmA; rw [if_neg (by decide), if_neg (by decide)]
theorem stA_0 (i x y : Int32) : stA 0 i x y = i + (if x < 0 then 0 else x) := by unfold stA; rw [if_pos rfl]
theorem stA_1 (i x y : Int32) : stA 1 i x y = i + (if x < 0 then 0 else 1) := by unfold stA; rw [if_neg (by decide), if_pos rfl]
theorem stA_2 (i x y : Int32) : stA 2 i x y = if i < x then x else i := by unfold stA; rw [if_neg (by decide), if_neg (by decide), if_pos rfl]
theorem rgA_S {kd : Int32} (h : ¬ kd = 2) (T : Nat → Int32) (t a : Nat) : ∀ n, rgA kd T t a n = sS (fun i => tmA kd (T (12 * t + (a + i))) (T (12 + (a + i)))) n
  | 0 => by rw [rgA, if_neg h]; rfl
  | n + 1 => by
    rw [rgA, rgA_S h T t a n, sS, stA, tmA]
    by_cases h0 : kd = 0
    · rw [if_pos h0, if_pos h0]
    · by_cases h1 : kd = 1
      · rw [if_neg h0, if_pos h1, if_neg h0, if_pos h1]
      · rw [if_neg h0, if_neg h1, if_neg h, if_neg h0, if_neg h1]
theorem rgA_M (T : Nat → Int32) (t a : Nat) : ∀ n, rgA 2 T t a n = mxS (fun i => T (12 * t + (a + i))) n
  | 0 => rfl
  | n + 1 => by
    rw [rgA, rgA_M T t a n, mxS, stA, if_neg (by decide), if_neg (by decide), if_pos rfl]
theorem ge_m1 {x : Int32} (h : x = -1 ∨ rg x 99) : -1 ≤ x := by
  rcases h with rfl | h
  · exact Int32.le_refl _
  · exact Int32.le_trans (by decide) (Int32.not_lt.mp (rg_nn h (by decide)))
/-- the answer behind a change at a cell that concerns it -/
def rvA (kd ans before after other recompute : Int32) : Int32 :=
  if kd = 0 then ans + (vl_amt after - vl_amt before) else if kd = 1 then ans + vl_prs after - vl_prs before else if kd = 2 then (if after < ans then (if before = ans then recompute else ans) else after) else ans + (vl_amt after - vl_amt before) * vl_amt other
theorem rv_ok {kd : Int32} {T T' : Nat → Int32} {t a n c : Nat} {x oc : Int32} (hT : tvo T) (hT' : tvo T') (hu : ∀ i, i ≠ c → T' i = T i) (hx : T' c = x) (hkd : kd = 0 ∨ kd = 1 ∨ kd = 2 ∨ kd = 3) (hj3 : kd = 3 → t = 0) (ht : t ≤ 1) (han : a + n ≤ 12)
    (hc1 : c < 24) (hc2 : a ≤ c % 12 ∧ c % 12 < a + n) (hc3 : kd = 3 ∨ t = c / 12) (ho : oc = T (if c < 12 then c + 12 else c - 12)) :
    rvA kd (rgA kd T t a n) (T c) x oc (rgA kd T' t a n) = rgA kd T' t a n := by
  have hxo : x = -1 ∨ rg x 99 := by rw [← hx]; exact hT' c hc1
  have hbo := hT c hc1
  obtain ⟨j, hj⟩ : ∃ j, c % 12 = a + j := ⟨c % 12 - a, by omega⟩
  have hjn : j < n := by omega
  rcases hkd with rfl | rfl | rfl | rfl
  · have htc : t = c / 12 := hc3.resolve_left (by decide)
    have hcj : 12 * t + (a + j) = c := by omega
    rw [rvA, if_pos rfl, rgA_S (by decide), rgA_S (by decide)]
    rw [sS_up (g := fun i => tmA 0 (T (12 * t + (a + i))) (T (12 + (a + i)))) (g' := fun i => tmA 0 (T' (12 * t + (a + i))) (T' (12 + (a + i)))) (j := j) (N := n) (fun i hin hi => ?_) n (Nat.le_refl n), if_pos hjn]
    · congr 1
      rw [tmA_0, tmA_0, hcj, hx, amt_e hxo, amt_e hbo]
    · show tmA 0 _ _ = tmA 0 _ _
      rw [tmA_0, tmA_0, hu _ (by omega)]
  · have htc : t = c / 12 := hc3.resolve_left (by decide)
    have hcj : 12 * t + (a + j) = c := by omega
    rw [rvA, if_neg (by decide), if_pos rfl, rgA_S (by decide), rgA_S (by decide)]
    rw [sS_up (g := fun i => tmA 1 (T (12 * t + (a + i))) (T (12 + (a + i)))) (g' := fun i => tmA 1 (T' (12 * t + (a + i))) (T' (12 + (a + i)))) (j := j) (N := n) (fun i hin hi => ?_) n (Nat.le_refl n), if_pos hjn, ← i32_ab]
    · congr 1
      rw [tmA_1, tmA_1, hcj, hx, prs_e hxo, prs_e hbo]
    · show tmA 1 _ _ = tmA 1 _ _
      rw [tmA_1, tmA_1, hu _ (by omega)]
  · have htc : t = c / 12 := hc3.resolve_left (by decide)
    have hcj : 12 * t + (a + j) = c := by omega
    rw [rvA, if_neg (by decide), if_neg (by decide), if_pos rfl, rgA_M, rgA_M]
    by_cases h1 : x < mxS (fun i => T (12 * t + (a + i))) n
    · rw [if_pos h1]
      by_cases h2 : T c = mxS (fun i => T (12 * t + (a + i))) n
      · rw [if_pos h2]
      · rw [if_neg h2]
        symm
        refine mxS_is (fun i hi => ?_) (mxS_m1 n) ?_
        · by_cases hij : i = j
          · subst hij
            show T' _ ≤ _
            rw [hcj, hx]
            exact Int32.le_of_lt h1
          · show T' _ ≤ _
            rw [hu _ (by omega)]
            exact mxS_ge (g := fun i => T (12 * t + (a + i))) n i hi
        · rcases mxS_at (g := fun i => T (12 * t + (a + i))) n with h | ⟨i, hi, h⟩
          · exact Or.inl h
          · refine Or.inr ⟨i, hi, ?_⟩
            show _ = T' _
            have hij : i ≠ j := by
              intro e
              subst e
              exact h2 (by rw [h]; show T c = T _; rw [hcj])
            rw [hu _ (by omega)]
            exact h
    · rw [if_neg h1]
      symm
      refine mxS_is (fun i hi => ?_) (ge_m1 hxo) (Or.inr ⟨j, hjn, by show x = T' _; rw [hcj, hx]⟩)
      by_cases hij : i = j
      · subst hij
        show T' _ ≤ _
        rw [hcj, hx]
        exact Int32.le_refl _
      · show T' _ ≤ _
        rw [hu _ (by omega)]
        exact Int32.le_trans (mxS_ge (g := fun i => T (12 * t + (a + i))) n i hi) (Int32.not_lt.mp h1)
  · have ht0 : t = 0 := hj3 rfl
    subst ht0
    have hoo : oc = -1 ∨ rg oc 99 := by rw [ho]; split <;> exact hT _ (by omega)
    rw [rvA, if_neg (by decide), if_neg (by decide), if_neg (by decide), rgA_S (by decide), rgA_S (by decide)]
    rw [sS_up (g := fun i => tmA 3 (T (12 * 0 + (a + i))) (T (12 + (a + i)))) (g' := fun i => tmA 3 (T' (12 * 0 + (a + i))) (T' (12 + (a + i)))) (j := j) (N := n) (fun i hin hi => ?_) n (Nat.le_refl n), if_pos hjn]
    · congr 1
      rw [tmA_3, tmA_3, Nat.mul_zero, Nat.zero_add]
      by_cases hlo : c < 12
      · have e1 : a + j = c := by omega
        rw [if_pos hlo] at ho
        rw [e1, hx, hu (12 + c) (by omega), show 12 + c = c + 12 by omega, ← ho, ← amt_m hxo hoo, ← amt_m hbo hoo, Int32.sub_mul]
      · have e1 : 12 + (a + j) = c := by omega
        rw [if_neg hlo] at ho
        rw [e1, hx, hu (a + j) (by omega), show a + j = c - 12 by omega, ← ho, ← amt_m hoo hxo, ← amt_m hoo hbo, ← Int32.mul_sub, Int32.mul_comm]
    · show tmA 3 _ _ = tmA 3 _ _
      rw [tmA_3, tmA_3, hu _ (by omega), hu _ (by omega)]
/-- a change that doesn't concern a view leaves its answer -/
theorem aT_nc {v : mv} {T T' : Nat → Int32} {c : Nat} (hI : IV v) (hu : ∀ i, i ≠ c → T' i = T i) : ∀ {k : Nat}, k < 8 → vk v k 4 = 1 → cs v k c = false → aT v T' k = aT v T k := by
  intro k
  induction k using Nat.strongRecOn with
  | ind k ih =>
    intro hk he hc
    obtain ⟨w4, w0, w1, wt, w2, w3, wp, wr, wx, -⟩ := hI.wv hk he
    rw [aT_eq hI hk he, aT_eq hI hk he]
    rw [cs_eq] at hc
    unfold qa
    by_cases h4 : vk v k 0 = 4
    · obtain ⟨ha, hb⟩ := wp h4
      obtain ⟨x1, x2⟩ := wx he h4
      rw [if_pos h4, tb_lt ha, tb_lt hb] at hc
      obtain ⟨c1, c2⟩ := Bool.or_eq_false_iff.mp hc
      rw [if_pos h4, if_pos h4, ih _ ha (by omega) x1 c1, ih _ hb (by omega) x2 c2]
    · rw [if_neg h4] at hc
      rw [if_neg h4, if_neg h4]
      have hfl := wr h4
      have b1 := w1.2
      have b3 := w3.2
      have gen : ∀ m, tn (vk v k 2) + m ≤ tn (vk v k 3) + 1 → rgA (vk v k 0) T' (tn (vk v k 1)) (tn (vk v k 2)) m = rgA (vk v k 0) T (tn (vk v k 1)) (tn (vk v k 2)) m := by
        intro m
        induction m with
        | zero => intro _; rfl
        | succ m ihm =>
          intro hm
          rw [rgA, rgA, ihm (by omega)]
          have hne1 : 12 * tn (vk v k 1) + (tn (vk v k 2) + m) ≠ c := by
            intro e
            rw [decide_eq_true (show tn (vk v k 2) ≤ c % 12 by omega), decide_eq_true (show c % 12 ≤ tn (vk v k 3) by omega), decide_eq_true (show tn (vk v k 1) = c / 12 by omega), Bool.or_true] at hc
            cases hc
          rw [hu _ hne1]
          by_cases h3 : vk v k 0 = 3
          · have hne2 : 12 + (tn (vk v k 2) + m) ≠ c := by
              intro e
              rw [decide_eq_true (show tn (vk v k 2) ≤ c % 12 by omega), decide_eq_true (show c % 12 ≤ tn (vk v k 3) by omega), decide_eq_true h3] at hc
              cases hc
            rw [hu _ hne2]
          · have h012 : vk v k 0 = 0 ∨ vk v k 0 = 1 ∨ vk v k 0 = 2 := by
              refine (k_012 w0).mpr (fun h => ?_)
              have e1 := w0.1
              have e2 := w0.2
              generalize tn (vk v k 0) = q at e1 e2
              rw [e1] at h h3 h4
              have : q = 0 ∨ q = 1 ∨ q = 2 ∨ q = 3 ∨ q = 4 := by omega
              rcases this with rfl | rfl | rfl | rfl | rfl
              · exact absurd h (by decide)
              · exact absurd h (by decide)
              · exact absurd h (by decide)
              · exact h3 rfl
              · exact h4 rfl
            rcases h012 with h | h | h
            · rw [h, stA_0, stA_0]
            · rw [h, stA_1, stA_1]
            · rw [h, stA_2, stA_2]
      exact gen _ (by omega)
