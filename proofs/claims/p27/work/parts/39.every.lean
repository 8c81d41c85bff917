theorem OR_mem {v : mv} {r n : Nat} {t : Nat → Nat} (h : OR v r (wt v) n t) {i : Nat} (hi : i < n) : t i < 8 ∧ vk v (t i) 4 = 1 ∧ vk v (t i) 5 = 0 := by
  have := (h.2 (t i)).mpr ⟨i, hi, rfl⟩
  unfold wt ex at this
  simp only [Bool.and_eq_true, decide_eq_true_eq] at this
  exact ⟨this.1, this.2.1, this.2.2⟩
/-- the rank of a view by the rule -/
def rk32 (v : mv) (k : Nat) : Int32 := if v 14 = 1 then -(vk v k 7) else if v 14 = 2 then need v k else 0
theorem nI_negI {n : Nat} (h : n < 2 ^ 30) : (-(nI n)).toInt = -(n : Int) := by
  have h2 := pk_sub_toInt (a := 0) (b := n) (by decide) h
  have e : nI 0 - nI n = -(nI n) := by rw [nI_0]; exact Int32.zero_sub _
  rw [e] at h2
  rw [h2]
  omega
theorem rk_I {v : mv} (hI : IV v) {k : Nat} (hk : k < 8) (he : vk v k 4 = 1) : (rk32 v k).toInt = rkI v (tn (v 14)) k := by
  obtain ⟨-, -, -, -, -, -, -, -, -, -, -, w7, -⟩ := hI.wv hk he
  obtain ⟨n1, n2⟩ := need_N hI hk he
  have h14 := (hI.2.2.2.1 5 (by decide)).1
  have h7 := w7.2
  have e14 : v 14 = nI (tn (v 14)) := h14.1
  have l14 : tn (v 14) ≤ 2 := h14.2
  have h3 : tn (v 14) = 0 ∨ tn (v 14) = 1 ∨ tn (v 14) = 2 := by omega
  unfold rk32 rkI
  rcases h3 with h | h | h <;> rw [h] at e14 ⊢ <;> rw [e14]
  · rw [if_neg (by decide), if_neg (by decide), if_neg (by decide), if_neg (by decide)]; rfl
  · rw [if_pos (by decide), if_pos rfl, w7.1, nI_negI (by omega), tn_nI (by omega)]
  · rw [if_neg (by decide), if_pos (by decide), if_neg (by decide), if_pos rfl, n1, nI_toInt (by omega)]
section Ev
variable {I : mj_I} {b : Nat} {v : mv}
theorem RB_rk {I' : mj_I} (h : RB I b v) (hF : ∀ o, o ≠ b + 6 → I' o = I o) : RB I' b v := by
  obtain ⟨h1, h2, h3, h4, h5⟩ := h
  unfold RB
  rw [hF (b + 1) (by omega), hF b (by omega), hF (b + 5) (by omega), hF (b + 2) (by omega), hF (b + 3) (by omega)]
  exact ⟨h1, h2, h3, h4, fun k hk => by rw [hF (b + 7 + k) (by omega)]; exact h5 k hk⟩
end Ev
