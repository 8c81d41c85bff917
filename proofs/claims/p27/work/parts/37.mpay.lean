section Mp
variable {I : mj_I}
/-- only the reference's two notes of a payment change -/
def F9 (I I' : mj_I) : Prop := (∀ o, o ≠ 313 → I' o = I o) ∧ ∀ f, f ≠ 9 → f ≠ 10 → I' 313 f = I 313 f
theorem f9_rf : F9 I I := ⟨fun _ _ => rfl, fun _ _ _ => rfl⟩
theorem f9_up {I' : mj_I} (h : F9 I I') {k : Nat} {x : Int32} (hk : k = 9 ∨ k = 10) : F9 I (mj_up I' 313 k x) :=
  ⟨fun o ho => by rw [mj_up_ne ho]; exact h.1 o ho, fun f g1 g2 => by rw [mj_up_eq, up_n (by omega)]; exact h.2 f g1 g2⟩
end Mp
