def fcV (v : mv) (r c : Nat) : mv := upd (upd v 2 (nI c)) 14 (nI r)
theorem sq_fc {v : mv} {r c : Nat} : SQ v (fcV v r c) := by
  unfold fcV
  refine sq_tr (sq_up (Or.inl (by omega)) ?_) (sq_up (Or.inl (by omega)) ?_) <;> intro k' f' hf' <;> omega
theorem fc_e {v : mv} {r c i : Nat} (h2 : i ≠ 2) (h14 : i ≠ 14) : fcV v r c i = v i := by
  unfold fcV
  rw [up_n h14, up_n h2]
theorem fc_I {v : mv} (hI : IV v) {r c : Nat} (hr : r < 3) (hc : c ≤ 9999) : IV (fcV v r c) :=
  IV_set (i := 5) (IV_tre hI (rg_nI hc (by decide))) (by decide) (rg_nI (by show r ≤ 2; omega) (by decide)) (Nat.zero_le _)
theorem OR_to {v v' : mv} {r n : Nat} {p p' : Nat → Bool} {t : Nat → Nat} (h : OR v r p n t) (hp : ∀ k, p' k = p k) (e : ∀ k, p k = true → rkI v' r k = rkI v r k) : OR v' r p' n t := by
  have ht : ∀ i, i < n → p (t i) = true := fun i hi => (h.2 _).mpr ⟨i, hi, rfl⟩
  refine ⟨fun i j hij hj => ?_, fun k => by rw [hp]; exact h.2 k⟩
  have := h.1 i j hij hj
  unfold lx at this ⊢
  rw [e _ (ht i (by omega)), e _ (ht j hj)]
  exact this
theorem fc_O {v : mv} (hI : IV v) {r c n : Nat} {t : Nat → Nat} (h : OR v r (wt v) n t) : OR (fcV v r c) r (wt (fcV v r c)) n t := by
  have ek : ∀ k f, vk (fcV v r c) k f = vk v k f := fun k f => fc_e (by omega) (by omega)
  refine OR_to h (fun k => by unfold wt ex; rw [ek, ek]) (fun k _ => ?_)
  obtain ⟨-, -, h3⟩ := py_to (v := v) (v' := fcV v r c) hI sq_fc (fc_e (by decide) (by decide)) (fc_e (by decide) (by decide)) (fc_e (by decide) (by decide)) (k := k) (ek _ _) (ek _ _) (ek _ _) 0
  unfold rkI
  rw [ek, h3]
section Ms
variable {I : mj_I}
/-- the settled views of a forecast -/
def stV (v : mv) (t : Nat → Nat) (n r c : Nat) : Nat → Bool := fun k => ex (pvV (fcV v r c) t n) k && bel (pvV (fcV v r c) t n) 4 k
end Ms
