theorem payV_o {v : mv} {k c i : Nat} (h2 : i ≠ 2) (h4 : i ≠ 4) (h5 : i ≠ 5) (g6 : i ≠ 615 + 9 * k + 6) (g7 : i ≠ 615 + 9 * k + 7) (g8 : i ≠ 615 + 9 * k + 8) : payV v k c i = v i := by
  unfold payV
  rw [up_n h5, up_n h4, up_n h2, up_n g8, up_n g7, up_n g6]
/-- the views t 0, t 1, .. paid one after another out of the treasury -/
def pvV (v : mv) (t : Nat → Nat) : Nat → mv
  | 0 => v
  | i + 1 => payV (pvV v t i) (t i) (tn (pvV v t i 2))
def pvN (v : mv) (t : Nat → Nat) : Nat → Nat
  | 0 => 0
  | i + 1 => pvN v t i + (pyD (pvV v t i) (t i) (tn (pvV v t i 2)) + pyA (pvV v t i) (t i) (tn (pvV v t i 2)))
section Pe
variable {v : mv} {t : Nat → Nat}
theorem pv_f (ht : ∀ i, t i < 8) : ∀ i k f, k < 8 → f < 6 → vk (pvV v t i) k f = vk v k f
  | 0, _, _, _, _ => rfl
  | i + 1, k, f, hk, hf => by
    have := ht i
    show payV _ _ _ _ = _
    rw [payV_o (by omega) (by omega) (by omega) (by omega) (by omega) (by omega)]
    exact pv_f ht i k f hk hf
theorem pv_k (ht : ∀ i, t i < 8) {k : Nat} (hk : k < 8) (f : Nat) (hf : f < 9) : ∀ i, (∀ j, j < i → t j ≠ k) → vk (pvV v t i) k f = vk v k f
  | 0, _ => rfl
  | i + 1, h => by
    have := ht i
    have := h i (by omega)
    show payV _ _ _ _ = _
    rw [payV_o (by omega) (by omega) (by omega) (by omega) (by omega) (by omega)]
    exact pv_k ht hk f hf i (fun j hj => h j (by omega))
theorem pv_s (ht : ∀ i, t i < 8) : ∀ i k, k ≠ 2 → k ≠ 4 → k ≠ 5 → k < 615 → pvV v t i k = v k
  | 0, _, _, _, _, _ => rfl
  | i + 1, k, h2, h4, h5, h6 => by
    show payV _ _ _ _ = _
    rw [payV_o h2 h4 h5 (by omega) (by omega) (by omega)]
    exact pv_s ht i k h2 h4 h5 h6
theorem pv_I (ht : ∀ i, t i < 8) (hI : IV v) {n : Nat} (hn : ∀ i, i < n → vk v (t i) 4 = 1) : ∀ i, i ≤ n → IV (pvV v t i)
  | 0, _ => hI
  | i + 1, h => by
    refine payV_I (pv_I ht hI hn i (by omega)) (ht i) ?_ (Nat.le_refl _)
    rw [pv_f ht i _ 4 (ht i) (by decide)]
    exact hn i (by omega)
end Pe
theorem msk_rm : ∀ m, m < 256 → ∀ k, k < 8 → m.testBit k = true → nI m &&& ((1 <<< (nI k &&& 31)) ^^^ (-1)) = nI (m - 2 ^ k) := by decide +kernel
theorem msk_del {p : Nat → Bool} {k : Nat} (hp : p k = true) : ∀ n, k < n → msk (fun q => p q && !decide (q = k)) n + 2 ^ k = msk p n
  | 0, h => absurd h (Nat.not_lt_zero k)
  | n + 1, h => by
    rw [msk, msk]
    by_cases e : k = n
    · subst e
      rw [if_pos hp, if_neg (by simp), msk_ext (q := p) (fun i hi => by simp [show ¬ i = k by omega])]
      rfl
    · have := msk_del hp n (by omega)
      have e2 : (p n && !decide (n = k)) = p n := by simp [show ¬ n = k by omega]
      rw [e2]
      omega
