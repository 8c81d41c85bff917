/-- how many views there are below n -/
def nV (v : mv) : Nat → Nat
  | 0 => 0
  | n + 1 => nV v n + (if ex v n = true then 1 else 0)
theorem nV_le (v : mv) : ∀ n, nV v n ≤ n
  | 0 => Nat.le_refl 0
  | n + 1 => by
    have := nV_le v n
    rw [nV]
    split <;> omega
