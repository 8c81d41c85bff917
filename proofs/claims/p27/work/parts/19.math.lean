abbrev mv : Type := Nat → Int32
def tn (x : Int32) : Nat := x.toNatClampNeg
theorem mj_nz (x : Int32) (h : ¬ x < 0) : x = nI x.toNatClampNeg := by
  obtain ⟨j, hj, rfl⟩ := nI_of h
  rw [nI_clamp hj]
theorem tn_nI {n : Nat} (h : n < 2 ^ 31) : tn (nI n) = n := nI_clamp h
theorem tn_lt (x : Int32) : tn x < 2 ^ 31 := by
  unfold tn Int32.toNatClampNeg
  have := Int32.toInt_lt x
  omega
theorem nn_tn {x : Int32} (h : ¬ x < 0) : x = nI (tn x) := mj_nz x h
def rg (x : Int32) (n : Nat) : Prop := x = nI (tn x) ∧ tn x ≤ n
theorem rg_nI {n m : Nat} (h : n ≤ m) (hm : m < 2 ^ 31) : rg (nI n) m := ⟨by rw [tn_nI (by omega)], by rw [tn_nI (by omega)]; exact h⟩
theorem rg_01 {x : Int32} (h : rg x 1) : x = 0 ∨ x = 1 := by
  rw [h.1]
  have := h.2
  rcases (show tn x = 0 ∨ tn x = 1 by omega) with e | e <;> rw [e]
  · exact Or.inl rfl
  · exact Or.inr rfl
def vk (v : mv) (k f : Nat) : Int32 := v (615 + 9 * k + f)
def bi (p : Bool) : Int32 := if p = true then 1 else 0
theorem bi_0 (p : Bool) : bi p = 0 ↔ p = false := by cases p <;> decide
theorem bi_n0 (p : Bool) : ¬ bi p = 0 ↔ p = true := by cases p <;> decide
theorem bi_01 (p : Bool) : bi p = 0 ∨ bi p = 1 := by cases p <;> decide
theorem bi_1 (p : Bool) : bi p = 1 ↔ p = true := by cases p <;> decide
/-! tables that are filled from below -/
def tb_n {α : Type} (d : α) (step : (Nat → α) → Nat → α) : Nat → Nat → α
  | 0 => fun _ => d
  | n + 1 => fun k => if k = n then step (tb_n d step n) n else tb_n d step n k
def tb_v {α : Type} (d : α) (step : (Nat → α) → Nat → α) (k : Nat) : α := step (tb_n d step k) k
theorem tb_lt {α : Type} {d : α} {step : (Nat → α) → Nat → α} {a : Nat} : ∀ {n : Nat}, a < n → tb_n d step n a = tb_v d step a
  | 0, h => absurd h (Nat.not_lt_zero a)
  | n + 1, h => by
    by_cases e : a = n
    · subst e; exact if_pos rfl
    · show (if a = n then step (tb_n d step n) n else tb_n d step n a) = _
      rw [if_neg e]; exact tb_lt (by omega)
/-! sets as numbers -/
def msk (p : Nat → Bool) : Nat → Nat
  | 0 => 0
  | n + 1 => msk p n + (if p n = true then 2 ^ n else 0)
theorem msk_lt (p : Nat → Bool) : ∀ n, msk p n < 2 ^ n
  | 0 => Nat.one_pos
  | n + 1 => by
    have := msk_lt p n
    rw [msk, Nat.pow_succ]
    split <;> omega
theorem msk_bit (p : Nat → Bool) (i : Nat) : ∀ n, (msk p n).testBit i = (decide (i < n) && p i)
  | 0 => by simp [msk]
  | n + 1 => by
    have h := msk_lt p n
    rw [msk]
    cases hp : p n
    · simp only [Bool.false_eq_true, if_false, Nat.add_zero]
      rw [msk_bit p i n]
      by_cases e : i = n
      · subst e; simp [hp]
      · by_cases e2 : i < n
        · simp [e2, show i < n + 1 by omega]
        · simp [e2, show ¬ i < n + 1 by omega]
    · simp only [if_true]
      rw [Nat.add_comm]
      rcases Nat.lt_trichotomy i n with e | e | e
      · rw [Nat.testBit_two_pow_add_gt e, msk_bit p i n]
        simp [e, show i < n + 1 by omega]
      · subst e
        rw [Nat.testBit_two_pow_add_eq, msk_bit p i i]
        simp [hp]
      · rw [Nat.testBit_lt_two_pow]
        · simp [show ¬ i < n + 1 by omega]
        · have : 2 ^ (n + 1) ≤ 2 ^ i := Nat.pow_le_pow_right (by decide) (by omega)
          rw [Nat.pow_succ] at this
          omega
theorem msk_or (p q : Nat → Bool) (n : Nat) : msk p n ||| msk q n = msk (fun i => p i || q i) n := by
  apply Nat.eq_of_testBit_eq
  intro i
  rw [Nat.testBit_or, msk_bit, msk_bit, msk_bit]
  cases decide (i < n) <;> simp
theorem msk_ext {p q : Nat → Bool} : ∀ {n : Nat}, (∀ i, i < n → p i = q i) → msk p n = msk q n
  | 0, _ => rfl
  | n + 1, h => by rw [msk, msk, msk_ext (fun i hi => h i (by omega)), h n (by omega)]
theorem sh_1 : ∀ c, c < 31 → (1 : Int32) <<< (nI c &&& 31) = nI (2 ^ c) := by decide
theorem msk_and (p : Nat → Bool) (n c : Nat) (hc : c < n) (hn : n ≤ 31) : nI (msk p n) &&& (1 <<< (nI c &&& 31)) = 0 ↔ p c = false := by
  rw [sh_1 c (by omega), fa_bit (by omega), msk_bit]
  simp [hc]
theorem msk_or1 (p : Nat → Bool) (n : Nat) (hn : n < 31) : nI (msk p n) ||| (1 <<< (nI n &&& 31)) = nI (msk p n + 2 ^ n) := by
  rw [sh_1 n hn]
  have h := fa_or_sum (k := n) (a := msk p n) 1 (msk_lt p n)
  rw [Nat.mul_one, Nat.add_comm] at h
  rw [← h]
  exact Int32.or_comm _ _
/-! counts -/
def cnt (p : Nat → Bool) (a : Nat) : Nat → Nat
  | 0 => 0
  | n + 1 => cnt p a n + (if p (a + n) = true then 1 else 0)
theorem cnt_le (p : Nat → Bool) (a : Nat) : ∀ n, cnt p a n ≤ n
  | 0 => Nat.le_refl 0
  | n + 1 => by
    have := cnt_le p a n
    rw [cnt]
    split <;> omega
theorem cnt_ext {p q : Nat → Bool} {a : Nat} : ∀ {n : Nat}, (∀ i, a ≤ i → i < a + n → p i = q i) → cnt p a n = cnt q a n
  | 0, _ => rfl
  | n + 1, h => by rw [cnt, cnt, cnt_ext (fun i h1 h2 => h i h1 (by omega)), h (a + n) (by omega) (by omega)]
/-! what a vector says: the layout is the reference's first 687 numbers -/
/-- the cell of a change -/
def cl (v : mv) (j : Nat) : Nat := 12 * tn (v (15 + 3 * j)) + tn (v (16 + 3 * j))
def cs_s (v : mv) (g : Nat → Nat → Bool) (k : Nat) : Nat → Bool := fun c =>
  if vk v k 0 = 4 then g (tn (vk v k 2)) c || g (tn (vk v k 3)) c
  else (decide (tn (vk v k 2) ≤ c % 12) && decide (c % 12 ≤ tn (vk v k 3))) && (decide (vk v k 0 = 3) || decide (tn (vk v k 1) = c / 12))
/-- does a change of cell c concern the question of view k -/
def cs (v : mv) : Nat → Nat → Bool := tb_v (fun _ => false) (cs_s v)
def ks_s (v : mv) (g : Nat → Nat) (k : Nat) : Nat := if vk v k 0 = 4 then g (tn (vk v k 2)) + g (tn (vk v k 3)) else tn (vk v k 3) + 1 - tn (vk v k 2)
def ks (v : mv) : Nat → Nat := tb_v 0 (ks_s v)
def cm (v : mv) (k : Nat) : Nat := msk (cs v k) 24
/-- the arrears of view k -/
def arr (v : mv) (k : Nat) : Nat := if vk v k 5 = 1 then 0 else cnt (fun j => cs v k (cl v j)) (tn (vk v k 6)) (tn (v 0) - tn (vk v k 6))
def prc (v : mv) (k : Nat) : Int32 := if 3 ≤ vk v k 0 then 2 * v 10 else v 10
def need (v : mv) (k : Nat) : Int32 := vk v k 7 + nI (arr v k) * prc v k
def isV (v : mv) (x : Int32) : Bool := decide (0 ≤ x) && (decide (x < 8) && decide (vk v (tn x) 4 = 1))
def hiS (i : Nat) : Nat := [20, 20, 500, 100, 1, 2].getD i 0
def loS (i : Nat) : Nat := [0, 1, 0, 0, 0, 0].getD i 0
/-- a defined view's numbers make sense -/
def WV (v : mv) (k : Nat) : Prop :=
  (vk v k 4 = 0 ∨ vk v k 4 = 1) ∧ rg (vk v k 0) 4 ∧ rg (vk v k 1) 1 ∧ (3 ≤ vk v k 0 → vk v k 1 = 0) ∧ rg (vk v k 2) 11 ∧ rg (vk v k 3) 11 ∧
  (vk v k 0 = 4 → tn (vk v k 2) < k ∧ tn (vk v k 3) < k) ∧ (¬ vk v k 0 = 4 → tn (vk v k 2) ≤ tn (vk v k 3)) ∧
  (vk v k 4 = 1 → vk v k 0 = 4 → vk v (tn (vk v k 2)) 4 = 1 ∧ vk v (tn (vk v k 3)) 4 = 1) ∧
  rg (vk v k 5) 1 ∧ rg (vk v k 6) (tn (v 0)) ∧ rg (vk v k 7) 500 ∧ (vk v k 4 = 0 → vk v k 7 = 0)
def IV (v : mv) : Prop :=
  rg (v 0) 200 ∧ rg (v 1) 8 ∧ rg (v 2) 9999 ∧ (∀ i, i < 6 → rg (v (9 + i)) (hiS i) ∧ loS i ≤ tn (v (9 + i))) ∧
  (∀ j, j < tn (v 0) → rg (v (15 + 3 * j)) 1 ∧ rg (v (16 + 3 * j)) 11 ∧ (v (17 + 3 * j) = -1 ∨ rg (v (17 + 3 * j)) 99)) ∧
  (∀ k, k < tn (v 1) → WV v k) ∧ (∀ k, tn (v 1) ≤ k → k < 8 → vk v k 4 = 0)
theorem IV.ex {v : mv} (h : IV v) {k : Nat} (hk : k < 8) (he : vk v k 4 = 1) : k < tn (v 1) := by
  rcases Nat.lt_or_ge k (tn (v 1)) with g | g
  · exact g
  · have := h.2.2.2.2.2.2 k g hk
    rw [this] at he
    exact absurd he (by decide)
theorem IV.wv {v : mv} (h : IV v) {k : Nat} (hk : k < 8) (he : vk v k 4 = 1) : WV v k := h.2.2.2.2.2.1 k (h.ex hk he)
theorem IV.b01 {v : mv} (h : IV v) {k : Nat} (hk : k < 8) : vk v k 4 = 0 ∨ vk v k 4 = 1 := by
  rcases Nat.lt_or_ge k (tn (v 1)) with g | g
  · exact (h.2.2.2.2.2.1 k g).1
  · exact Or.inl (h.2.2.2.2.2.2 k g hk)
theorem IV.cl_lt {v : mv} (h : IV v) {j : Nat} (hj : j < tn (v 0)) : cl v j < 24 := by
  obtain ⟨h1, h2, -⟩ := h.2.2.2.2.1 j hj
  have := h1.2
  have := h2.2
  unfold cl
  omega
/-- the books at b hold the vector v -/
def RV (f : Nat → Int32) (v : mv) (k : Nat) : Prop := f 1 = vk v k 0 ∧ f 2 = vk v k 1 ∧ f 3 = vk v k 2 ∧ f 4 = vk v k 3 ∧ f 5 = nI (cm v k) ∧ f 6 = nI (ks v k) ∧ f 7 = vk v k 5 ∧ f 8 = vk v k 6 ∧ f 9 = vk v k 7 ∧ f 10 = vk v k 8
def RB (I : mj_I) (b : Nat) (v : mv) : Prop :=
  I (b + 1) 2 = v 0 ∧ (∀ i, i < 8 → I b (4 + i) = v (1 + i)) ∧ (∀ i, i < 6 → I (b + 5) i = v (9 + i)) ∧
  (∀ j, j < tn (v 0) → I (b + 2) j = nI (cl v j) ∧ I (b + 3) j = v (17 + 3 * j)) ∧
  (∀ k, k < 8 → I (b + 7 + k) 0 = vk v k 4 ∧ ((I (b + 7 + k) 7 = 0 ∨ I (b + 7 + k) 7 = 1) ∧ (tn (v 1) ≤ k → I (b + 7 + k) 10 = 0)) ∧ (vk v k 4 = 1 → RV (I (b + 7 + k)) v k))
