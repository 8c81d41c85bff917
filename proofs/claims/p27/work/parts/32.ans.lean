theorem tabv_ok {v : mv} (hI : IV v) (c : Nat) : ∀ n, n ≤ tn (v 0) → tabv v c n = -1 ∨ rg (tabv v c n) 99
  | 0, _ => Or.inl rfl
  | n + 1, h => by
    rw [tabv]
    split
    · exact (hI.2.2.2.2.1 n (by omega)).2.2
    · exact tabv_ok hI c n (by omega)
def ly (v : mv) (I : mj_I) (o : Nat) : Nat → mj_I
  | 0 => tb_e I o 24
  | n + 1 => mj_up (ly v I o n) o (cl v n) (v (17 + 3 * n))
theorem tb_e_ne {I : mj_I} {o q : Nat} (h : q ≠ o) : ∀ n, tb_e I o n q = I q
  | 0 => rfl
  | n + 1 => by rw [tb_e, mj_up_ne h, tb_e_ne h n]
theorem tb_e_at {I : mj_I} {o c : Nat} : ∀ n, c < n → tb_e I o n o c = -1
  | 0, h => absurd h (Nat.not_lt_zero c)
  | n + 1, h => by
    rw [tb_e, mj_up_eq]
    by_cases e : c = n
    · rw [e, up_s]
    · rw [up_n e, tb_e_at n (by omega)]
theorem ly_ne {v : mv} {I : mj_I} {o q : Nat} (h : q ≠ o) : ∀ n, ly v I o n q = I q
  | 0 => tb_e_ne h 24
  | n + 1 => by rw [ly, mj_up_ne h, ly_ne h n]
theorem ly_at {v : mv} {I : mj_I} {o c : Nat} (hc : c < 24) : ∀ n, ly v I o n o c = tabv v c n
  | 0 => tb_e_at 24 hc
  | n + 1 => by
    rw [ly, mj_up_eq, tabv]
    by_cases e : cl v n = c
    · rw [if_pos e, e, up_s]
    · rw [if_neg e, up_n (fun h => e h.symm), ly_at hc n]
