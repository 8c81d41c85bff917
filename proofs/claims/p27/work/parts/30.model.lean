theorem bi_dec (P : Prop) [Decidable P] : bi (decide P) = if P then 1 else 0 := by
  unfold bi
  by_cases h : P <;> simp [h]
theorem s_31 : ∀ i, i < 31 → ((nI i &&& 31).toBitVec.smod 32).toNat = i := by decide
section Md
variable {I : mj_I}
theorem msk_zero {p : Nat → Bool} {a : Nat} : ∀ {n : Nat}, a ≤ n → (∀ i, a ≤ i → i < n → p i = false) → msk p n = msk p a
  | 0, h, _ => by rw [show a = 0 by omega]
  | n + 1, h, hp => by
    rcases Nat.lt_or_ge n a with g | g
    · rw [show a = n + 1 by omega]
    · rw [msk, hp n g (by omega), msk_zero g (fun i h1 h2 => hp i h1 (by omega))]
      rfl
/-- one view's turn in the reference's loop -/
theorem cs_eq {v : mv} (k c : Nat) : cs v k c = (if vk v k 0 = 4 then tb_n (fun _ => false) (cs_s v) k (tn (vk v k 2)) c || tb_n (fun _ => false) (cs_s v) k (tn (vk v k 3)) c else (decide (tn (vk v k 2) ≤ c % 12) && decide (c % 12 ≤ tn (vk v k 3))) && (decide (vk v k 0 = 3) || decide (tn (vk v k 1) = c / 12))) := rfl
end Md
