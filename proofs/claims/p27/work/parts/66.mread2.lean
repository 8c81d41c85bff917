/-- reading leaves all but the reader's own seven fields -/
def MB (I J : mj_I) : Prop := (∀ o, o ≠ 313 → J o = I o) ∧ ∀ k, k < 11 → J 313 k = I 313 k
def MS (I J : mj_I) (a : Nat) (e : Int32) : Prop := MB I J ∧ J 313 11 = nI a ∧ J 313 13 = e
def KQ (J J' : mj_I) : Prop := ∀ k, 14 ≤ k → J' 313 k = J 313 k
theorem mb_rf {I : mj_I} : MB I I := ⟨fun _ _ => rfl, fun _ _ => rfl⟩
theorem mb_up {I J : mj_I} {k : Nat} {x : Int32} (h : MB I J) (hk : 11 ≤ k) : MB I (mj_up J 313 k x) := ⟨fun o ho => by rw [mj_up_ne ho]; exact h.1 o ho, fun q hq => by rw [mj_up_eq, up_n (by omega)]; exact h.2 q hq⟩
theorem ms_u {I J : mj_I} {a k : Nat} {e x : Int32} (h : MS I J a e) (hk : 14 ≤ k) : MS I (mj_up J 313 k x) a e := ⟨mb_up h.1 (by omega), by rw [mj_up_eq, up_n (by omega)]; exact h.2.1, by rw [mj_up_eq, up_n (by omega)]; exact h.2.2⟩
