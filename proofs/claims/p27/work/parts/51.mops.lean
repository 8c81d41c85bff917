/-- the reference noted its n states' past and stands at w' -/
def MN (n : Nat) (I I' : mj_I) (w' : mv) : Prop := (∀ q, q ≠ 313 → q ≠ 314 → q ≠ 315 → q ≠ 317 → q ≠ 318 → q ≠ 319 → q ≠ 320 → I' q = I q) ∧ I' 314 = w' ∧ (∃ d m, NT n d m (I 315) (I 314) (I' 315) ∧ I' 313 2 = nI (m + 1)) ∧ I' 313 4 = I 313 4
section Mo
variable {I : mj_I}
theorem mn_no {n : Nat} {I1 : mj_I} (h1 : ∀ q, q ≠ 313 → q ≠ 315 → I1 q = I q) (h2 : ∀ f, f ≠ 2 → I1 313 f = I 313 f) (h3 : ∃ d m, NT n d m (I 315) (I 314) (I1 315) ∧ I1 313 2 = nI (m + 1)) : MN n I I1 (I 314) :=
  ⟨fun q a _ c _ _ _ _ => h1 q a c, h1 314 (by decide) (by decide), h3, h2 4 (by decide)⟩
theorem mn_up {n : Nat} {I1 : mj_I} {w : mv} {i : Nat} {x : Int32} (h : MN n I I1 w) : MN n I (mj_up I1 314 i x) (upd w i x) := by
  obtain ⟨h1, h2, ⟨d, m, h3, h4⟩, h5⟩ := h
  exact ⟨fun q a b c d e f g => by rw [mj_up_ne b]; exact h1 q a b c d e f g, by rw [mj_up_eq, h2], ⟨d, m, by rw [mj_up_ne (by decide)]; exact h3, by rw [mj_up_ne (by decide)]; exact h4⟩, by rw [mj_up_ne (by decide)]; exact h5⟩
end Mo
