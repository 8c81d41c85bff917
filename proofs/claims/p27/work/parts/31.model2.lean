def arrM (v : mv) (k : Nat) : Nat := if vk v k 5 = 1 then 0 else cnt (fun j => ex v k && cs v k (cl v j)) (tn (vk v k 6)) (tn (v 0) - tn (vk v k 6))
theorem arrM_ex {v : mv} {k : Nat} (he : vk v k 4 = 1) : arrM v k = arr v k := by
  unfold arrM arr
  rw [ex_t he]
  simp only [Bool.true_and]
theorem arrM_lt {v : mv} {k : Nat} : arrM v k < 2 ^ 31 := by
  unfold arrM
  split
  · decide
  · have := cnt_le (fun j => ex v k && cs v k (cl v j)) (tn (vk v k 6)) (tn (v 0) - tn (vk v k 6))
    have := tn_lt (v 0)
    omega
/-- the tables at a place -/
def tabv (v : mv) (c : Nat) : Nat → Int32
  | 0 => -1
  | n + 1 => if cl v n = c then v (17 + 3 * n) else tabv v c n
def stA (kd its x y : Int32) : Int32 :=
  if kd = 0 then its + (if x < 0 then 0 else x) else if kd = 1 then its + (if x < 0 then 0 else 1) else if kd = 2 then (if its < x then x else its) else its + (if x < 0 ∨ y < 0 then 0 else x * y)
def rgA (kd : Int32) (T : Nat → Int32) (t a : Nat) : Nat → Int32
  | 0 => if kd = 2 then -1 else 0
  | n + 1 => stA kd (rgA kd T t a n) (T (12 * t + (a + n))) (T (12 + (a + n)))
def qa (v : mv) (T A : Nat → Int32) (k : Nat) : Int32 :=
  if vk v k 0 = 4 then A (tn (vk v k 2)) - A (tn (vk v k 3)) else rgA (vk v k 0) T (tn (vk v k 1)) (tn (vk v k 2)) (tn (vk v k 3) + 1 - tn (vk v k 2))
def aq (v : mv) (n : Nat) : Nat → Int32 := tb_v 0 (fun g k => if vk v k 4 = 1 then qa v (fun c => tabv v c n) g k else 0)
section Md2
variable {I : mj_I}
/-- the reference's scratch -/
def Ms (I I' : mj_I) : Prop := (∀ o, o ≠ 313 → o ≠ 317 → o ≠ 318 → o ≠ 319 → o ≠ 320 → I' o = I o) ∧ I' 313 2 = I 313 2 ∧ I' 313 4 = I 313 4
theorem ms_rf : Ms I I := ⟨fun _ _ _ _ _ _ => rfl, rfl, rfl⟩
theorem ms_tr {I' I'' : mj_I} (h : Ms I I') (h' : Ms I' I'') : Ms I I'' := ⟨fun o a b c d e => (h'.1 o a b c d e).trans (h.1 o a b c d e), h'.2.1.trans h.2.1, h'.2.2.trans h.2.2⟩
theorem ms_up {I' : mj_I} (h : Ms I I') {o k : Nat} {x : Int32} (ho : o = 317 ∨ o = 318 ∨ o = 319 ∨ o = 320) : Ms I (mj_up I' o k x) :=
  ⟨fun q a b c d e => by rw [mj_up_ne (by omega)]; exact h.1 q a b c d e, by rw [mj_up_ne (by omega)]; exact h.2.1, by rw [mj_up_ne (by omega)]; exact h.2.2⟩
theorem ms_u3 {I' : mj_I} (h : Ms I I') {k : Nat} {x : Int32} (hk : 9 ≤ k) : Ms I (mj_up I' 313 k x) :=
  ⟨fun q a b c d e => by rw [mj_up_ne a]; exact h.1 q a b c d e, by rw [mj_up_eq, up_n (by omega)]; exact h.2.1, by rw [mj_up_eq, up_n (by omega)]; exact h.2.2⟩
end Md2
