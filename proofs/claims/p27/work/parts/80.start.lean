def wI : mv := fun k => mj_i0 11 2063 k
theorem wI_0 {k : Nat} (h : k < 9 ∨ 13 ≤ k) : wI k = 0 := by
  show (if k = 9 then (1 : Int32) else if k = 10 then 2 else if k = 11 then 30 else if k = 12 then 5 else 0) = 0
  rw [if_neg (by omega), if_neg (by omega), if_neg (by omega), if_neg (by omega)]
theorem tn_0 : tn 0 = 0 := by decide
theorem wI_I : IV wI := by
  have r0 : ∀ n, rg (0 : Int32) n := fun n => ⟨by decide, by rw [tn_0]; exact Nat.zero_le n⟩
  refine ⟨by rw [wI_0 (by decide)]; exact r0 _, by rw [wI_0 (by decide)]; exact r0 _, by rw [wI_0 (by decide)]; exact r0 _, fun i hi => ?_, fun j hj => ?_, fun k hk => ?_, fun k _ _ => wI_0 (by omega)⟩
  · rcases (show i = 0 ∨ i = 1 ∨ i = 2 ∨ i = 3 ∨ i = 4 ∨ i = 5 by omega) with rfl | rfl | rfl | rfl | rfl | rfl
    · exact ⟨rg_nI (n := 1) (by decide) (by decide), by decide⟩
    · exact ⟨rg_nI (n := 2) (by decide) (by decide), by decide⟩
    · exact ⟨rg_nI (n := 30) (by decide) (by decide), by decide⟩
    · exact ⟨rg_nI (n := 5) (by decide) (by decide), by decide⟩
    · exact ⟨rg_nI (n := 0) (by decide) (by decide), by decide⟩
    · exact ⟨rg_nI (n := 0) (by decide) (by decide), by decide⟩
  · rw [wI_0 (by decide), tn_0] at hj
    exact absurd hj (Nat.not_lt_zero j)
  · rw [wI_0 (by decide), tn_0] at hk
    exact absurd hk (Nat.not_lt_zero k)
theorem wI_Z : ZB wI := fun k hk h _ => by
  rw [show vk wI k 4 = 0 from wI_0 (by omega)] at h
  exact absurd h (by decide)
theorem i0_of {I : mj_I} {q t N : Nat} (h : I q = mj_I0 q) (hs : mj_sh q = (t, N)) (k : Nat) : I q k = mj_i0 t N k := by
  rw [h]
  unfold mj_I0
  rw [hs]
theorem i0_z0 {I : mj_I} {q t N : Nat} (h : I q = mj_I0 q) (hs : mj_sh q = (t, N)) (h1 : ¬ (t = 11 ∧ (N = 6 ∨ N = 2063))) (h3 : ¬ t = 3) (k : Nat) : I q k = 0 := by
  rw [i0_of h hs k]
  exact (i0_z h1 h3).symm
