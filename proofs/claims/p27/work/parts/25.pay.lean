/-- a contract whose answer and memory are told by a relation -/
def mj_px (P : Option mj_V → mj_I → Prop) : Option mj_V → mj_M → Prop := fun r M' => ∃ I', M' = mj_w I' ∧ P r I'
section Py
variable {I : mj_I} {b : Nat} {v : mv}
theorem C_X0_receive (hB : mj_isB b) {x : Int32} : mj_R D_X0_receive [.inr (some b), .inl x] (mj_w I) (mj_ex none (mj_up (mj_up I b 5 (I b 5 + x)) b 6 (I b 6 + x))) := by
  obtain ⟨h0, h1, h2, h3, h4, h5, h6, hv, hb⟩ := hB
  refine mj_enter (by decide +kernel) (Nat.le_of_ble_eq_true rfl) ?_
  refine J_ald S_X0_receive rfl rfl ?_
  refine J_dup S_X0_receive rfl ?_
  refine J_getI S_X0_receive rfl (by assumption) (by omega) ?_
  refine J_ild S_X0_receive rfl rfl ?_
  refine J_bin S_X0_receive rfl ?_
  refine J_putI S_X0_receive rfl (by assumption) (by omega) ?_
  refine J_ald S_X0_receive rfl rfl ?_
  refine J_dup S_X0_receive rfl ?_
  refine J_getI S_X0_receive rfl (by assumption) (by omega) ?_
  refine J_ild S_X0_receive rfl rfl ?_
  refine J_bin S_X0_receive rfl ?_
  refine J_putI S_X0_receive rfl (by assumption) (by omega) ?_
  refine J_retV S_X0_receive rfl ?_
  refine ⟨rfl, ?_⟩; rw [mj_up_eq, up_n (by decide)]
theorem C_X0_spend (hB : mj_isB b) {k : Nat} (hk : k < 8) {x : Int32} : mj_R D_X0_spend [.inr (some b), .inr (some (b + 7 + k)), .inl x] (mj_w I) (mj_ex none (mj_up (mj_up I b 5 (I b 5 - x)) (b + 7 + k) 10 (I (b + 7 + k) 10 + x))) := by
  obtain ⟨h0, h1, h2, h3, h4, h5, h6, hv, hb⟩ := hB
  have hvk := hv k hk
  refine mj_enter (by decide +kernel) (Nat.le_of_ble_eq_true rfl) ?_
  refine J_ald S_X0_spend rfl rfl ?_
  refine J_dup S_X0_spend rfl ?_
  refine J_getI S_X0_spend rfl (by assumption) (by omega) ?_
  refine J_ild S_X0_spend rfl rfl ?_
  refine J_bin S_X0_spend rfl ?_
  refine J_putI S_X0_spend rfl (by assumption) (by omega) ?_
  refine J_ald S_X0_spend rfl rfl ?_
  refine J_dup S_X0_spend rfl ?_
  refine J_getI S_X0_spend rfl (by assumption) (by omega) ?_
  refine J_ild S_X0_spend rfl rfl ?_
  refine J_bin S_X0_spend rfl ?_
  refine J_putI S_X0_spend rfl (by assumption) (by omega) ?_
  refine J_retV S_X0_spend rfl ?_
  refine ⟨rfl, ?_⟩; rw [mj_up_ne (show b + 7 + k ≠ b by omega)]
def minI (x y : Int32) : Int32 := if y < x then y else x
theorem C_X0_payDebt (hB : mj_isB b) {k : Nat} (hk : k < 8) {x m : Int32} (hm : minI x (I (b + 7 + k) 9) = m) : mj_R D_X0_payDebt [.inr (some b), .inr (some (b + 7 + k)), .inl x] (mj_w I) (mj_ex (some (.inl m)) (mj_up (mj_up (mj_up (mj_up I (b + 7 + k) 9 (I (b + 7 + k) 9 - m)) b 7 (I b 7 + m)) b 5 (I b 5 - m)) (b + 7 + k) 10 (I (b + 7 + k) 10 + m))) := by
  have hB' := hB
  obtain ⟨h0, h1, h2, h3, h4, h5, h6, hv, hb⟩ := hB
  have hvk := hv k hk
  refine mj_enter (by decide +kernel) (Nat.le_of_ble_eq_true rfl) ?_
  refine J_ild S_X0_payDebt rfl rfl ?_
  refine J_ald S_X0_payDebt rfl rfl ?_
  refine J_getI S_X0_payDebt rfl (by assumption) (by omega) ?_
  refine J_min S_X0_payDebt rfl (by decide) ?_
  rw [show (if I (b + 7 + k) 9 < x then I (b + 7 + k) 9 else x) = m from hm]
  refine J_ist S_X0_payDebt rfl rfl ?_
  refine J_ald S_X0_payDebt rfl rfl ?_
  refine J_dup S_X0_payDebt rfl ?_
  refine J_getI S_X0_payDebt rfl (by assumption) (by omega) ?_
  refine J_ild S_X0_payDebt rfl rfl ?_
  refine J_bin S_X0_payDebt rfl ?_
  refine J_putI S_X0_payDebt rfl (by assumption) (by omega) ?_
  refine J_ald S_X0_payDebt rfl rfl ?_
  refine J_dup S_X0_payDebt rfl ?_
  refine J_getI S_X0_payDebt rfl (by assumption) (by omega) ?_
  refine J_ild S_X0_payDebt rfl rfl ?_
  refine J_bin S_X0_payDebt rfl ?_
  refine J_putI S_X0_payDebt rfl (by assumption) (by omega) ?_
  refine J_ald S_X0_payDebt rfl rfl ?_
  refine J_ald S_X0_payDebt rfl rfl ?_
  refine J_ild S_X0_payDebt rfl rfl ?_
  refine J_CVx S_X0_payDebt rfl rfl (by assumption) (by omega) (by simp) (C_X0_spend hB' hk) rfl ?_
  refine J_ild S_X0_payDebt rfl rfl ?_
  refine J_retI S_X0_payDebt rfl ?_
  refine ⟨rfl, ?_⟩; simp only [mj_up_eq, mj_up_ne (show b ≠ b + 7 + k by omega), mj_up_ne (show b + 7 + k ≠ b by omega), up_n (show (5 : Nat) ≠ 7 by decide), up_n (show (10 : Nat) ≠ 9 by decide)]
/-- the place of arrear s: n places from a on -/
def pl (p : Nat → Bool) : Nat → Nat → Nat → Nat
  | a, 0, _ => a
  | a, n + 1, s => if p a = true then (if s = 0 then a else pl p (a + 1) n (s - 1)) else pl p (a + 1) n s
theorem pl_ge (p : Nat → Bool) : ∀ (n a s : Nat), a ≤ pl p a n s
  | 0, a, s => Nat.le_refl a
  | n + 1, a, s => by
    rw [pl]
    have h1 := pl_ge p n (a + 1) (s - 1)
    have h2 := pl_ge p n (a + 1) s
    split
    · split <;> omega
    · omega
theorem pl_le (p : Nat → Bool) : ∀ (n a s : Nat), pl p a n s ≤ a + n
  | 0, a, s => Nat.le_refl a
  | n + 1, a, s => by
    rw [pl]
    have h1 := pl_le p n (a + 1) (s - 1)
    have h2 := pl_le p n (a + 1) s
    split
    · split <;> omega
    · omega
theorem cnt_s (p : Nat → Bool) (a : Nat) : ∀ n, cnt p a (n + 1) = (if p a = true then 1 else 0) + cnt p (a + 1) n
  | 0 => by simp [cnt]
  | n + 1 => by
    rw [cnt, cnt_s p a n, cnt, show a + 1 + n = a + (n + 1) by omega, Nat.add_assoc]
/-- beyond the last arrear: the end -/
theorem pl_end (p : Nat → Bool) : ∀ (n a s : Nat), cnt p a n ≤ s → pl p a n s = a + n
  | 0, a, s, _ => rfl
  | n + 1, a, s, h => by
    rw [cnt_s] at h
    rw [pl]
    by_cases hp : p a = true
    · rw [if_pos hp] at h ⊢
      rw [if_neg (by omega), pl_end p n (a + 1) (s - 1) (by omega)]
      omega
    · rw [if_neg hp] at h ⊢
      rw [pl_end p n (a + 1) s (by omega)]
      omega
def prN (v : mv) (k : Nat) : Nat := if 3 ≤ vk v k 0 then 2 * tn (v 10) else tn (v 10)
theorem prc_N (hI : IV v) (k : Nat) : prc v k = nI (prN v k) ∧ 1 ≤ prN v k ∧ prN v k ≤ 40 := by
  obtain ⟨h1, h2⟩ := hI.2.2.2.1 1 (by decide)
  have h3 := h1.2
  have e : v 10 = nI (tn (v 10)) := h1.1
  have h4 : tn (v 10) ≤ 20 := h3
  have h5 : 1 ≤ tn (v 10) := h2
  unfold prc prN
  split
  · refine ⟨?_, by omega, by omega⟩
    rw [e, tn_nI (by omega)]
    exact pk_mul 2 (tn (v 10))
  · exact ⟨e, h5, by omega⟩
theorem pl_cnt (p : Nat → Bool) : ∀ (n a s : Nat), s < cnt p a n → cnt p a (pl p a n s - a) = s ∧ pl p a n s < a + n ∧ p (pl p a n s) = true
  | 0, a, s, h => absurd h (Nat.not_lt_zero s)
  | n + 1, a, s, h => by
    rw [cnt_s] at h
    rw [pl]
    by_cases hp : p a = true
    · rw [if_pos hp] at h ⊢
      by_cases hs : s = 0
      · rw [if_pos hs, Nat.sub_self]
        exact ⟨hs.symm, by omega, hp⟩
      · rw [if_neg hs]
        obtain ⟨g1, g2, g3⟩ := pl_cnt p n (a + 1) (s - 1) (by omega)
        have g4 := pl_ge p n (a + 1) (s - 1)
        refine ⟨?_, by omega, g3⟩
        rw [show pl p (a + 1) n (s - 1) - a = (pl p (a + 1) n (s - 1) - (a + 1)) + 1 by omega, cnt_s, g1, if_pos hp]
        omega
    · rw [if_neg hp] at h ⊢
      obtain ⟨g1, g2, g3⟩ := pl_cnt p n (a + 1) s (by omega)
      have g4 := pl_ge p n (a + 1) s
      refine ⟨?_, by omega, g3⟩
      rw [show pl p (a + 1) n s - a = (pl p (a + 1) n s - (a + 1)) + 1 by omega, cnt_s, g1, if_neg hp]
      omega
def cq (v : mv) (k : Nat) : Nat → Bool := fun j => cs v k (cl v j)
/-- arrears of a view that is not bankrupt: settled with c coins: how many, and the place then -/
def stl (v : mv) (k c : Nat) : Nat := min (c / prN v k) (arr v k)
def plc (v : mv) (k s : Nat) : Nat := pl (cq v k) (tn (vk v k 6)) (tn (v 0) - tn (vk v k 6)) s
theorem C_X0_payArrears (hB : mj_isB b) (hR : RB I b v) (hI : IV v) {k c : Nat} (hk : k < 8) (he : vk v k 4 = 1) (hz : vk v k 5 = 0) (hc : c ≤ 9999) : mj_R D_X0_payArrears [.inr (some b), .inr (some (b + 7 + k)), .inl (nI c)] (mj_w I)
    (mj_ex (some (.inl (nI (stl v k c * prN v k)))) (mj_up (mj_up (mj_up (mj_up I (b + 7 + k) 8 (nI (plc v k (stl v k c)))) b 8 (I b 8 + nI (stl v k c * prN v k))) b 5 (I b 5 - nI (stl v k c * prN v k))) (b + 7 + k) 10 (I (b + 7 + k) 10 + nI (stl v k c * prN v k)))) := by
  have hB' := hB
  have hw := hI.wv hk he
  obtain ⟨h0, h1, h2, h3, h4, h5, h6, hv, hb⟩ := hB
  have hvk := hv k hk
  obtain ⟨r1, r2, r3, r4, r5, r6, r7, r8, r9, r10⟩ := (hR.2.2.2.2 k hk).2.2 he
  obtain ⟨-, -, -, -, -, -, -, -, -, w5, w6, -, -⟩ := hw
  have hen := hI.1
  obtain ⟨p1, p2, p3⟩ := prc_N hI k
  have ha : arr v k = cnt (cq v k) (tn (vk v k 6)) (tn (v 0) - tn (vk v k 6)) := by unfold arr; rw [if_neg (by rw [hz]; decide)]; rfl
  refine mj_enter (by decide +kernel) (Nat.le_of_ble_eq_true rfl) ?_
  generalize hres : stl v k c = s
  have hs1 : s ≤ arr v k := by rw [← hres]; exact Nat.min_le_right _ _
  have hs2 : s * prN v k ≤ c := by
    have h := Nat.div_mul_le_self c (prN v k)
    have : s ≤ c / prN v k := by rw [← hres]; exact Nat.min_le_left _ _
    exact Nat.le_trans (Nat.mul_le_mul_right _ this) h
  have hs3 : s < arr v k → c < (s + 1) * prN v k := by
    intro h
    have e : s = c / prN v k := by
      rw [← hres] at h ⊢
      unfold stl at h ⊢
      omega
    rw [e, Nat.mul_comm]
    exact Nat.lt_mul_div_succ c (by omega)
  -- behind the loop
  have done : ∀ (z : Nat), z = plc v k s → mj_J D_X0_payArrears (mj_ex (some (.inl (nI (s * prN v k)))) (mj_up (mj_up (mj_up (mj_up I (b + 7 + k) 8 (nI (plc v k s))) b 8 (I b 8 + nI (s * prN v k))) b 5 (I b 5 - nI (s * prN v k))) (b + 7 + k) 10 (I (b + 7 + k) 10 + nI (s * prN v k)))) 66 [some (.inr (some b)), some (.inr (some (b + 7 + k))), some (.inl (nI c)), some (.inl (nI (prN v k))), some (.inl (nI (s * prN v k))), some (.inl (nI z))] [] (mj_w I) (0, 0) := by
    intro z hz
    subst hz
    refine J_ald S_X0_payArrears rfl rfl ?_
    refine J_ild S_X0_payArrears rfl rfl ?_
    refine J_putI S_X0_payArrears rfl (by assumption) (by omega) ?_
    refine J_ald S_X0_payArrears rfl rfl ?_
    refine J_dup S_X0_payArrears rfl ?_
    refine J_getI S_X0_payArrears rfl (by assumption) (by omega) ?_
    refine J_ild S_X0_payArrears rfl rfl ?_
    refine J_bin S_X0_payArrears rfl ?_
    refine J_putI S_X0_payArrears rfl (by assumption) (by omega) ?_
    refine J_ald S_X0_payArrears rfl rfl ?_
    refine J_ald S_X0_payArrears rfl rfl ?_
    refine J_ild S_X0_payArrears rfl rfl ?_
    refine J_CVx S_X0_payArrears rfl rfl (by assumption) (by omega) (by simp) (C_X0_spend hB' hk) rfl ?_
    refine J_ild S_X0_payArrears rfl rfl ?_
    refine J_retI S_X0_payArrears rfl ?_
    refine ⟨rfl, ?_⟩; simp only [mj_up_eq, mj_up_ne (show b ≠ b + 7 + k by omega), mj_up_ne (show b + 7 + k ≠ b by omega), up_n (show (5 : Nat) ≠ 8 by decide), up_n (show (10 : Nat) ≠ 8 by decide)]
  have key : ∀ (n m : Nat), tn (vk v k 6) + m + n = tn (v 0) → cnt (cq v k) (tn (vk v k 6)) m ≤ s → plc v k s = pl (cq v k) (tn (vk v k 6) + m) n (s - cnt (cq v k) (tn (vk v k 6)) m) → mj_J D_X0_payArrears (mj_ex (some (.inl (nI (s * prN v k)))) (mj_up (mj_up (mj_up (mj_up I (b + 7 + k) 8 (nI (plc v k s))) b 8 (I b 8 + nI (s * prN v k))) b 5 (I b 5 - nI (s * prN v k))) (b + 7 + k) 10 (I (b + 7 + k) 10 + nI (s * prN v k)))) 15 [some (.inr (some b)), some (.inr (some (b + 7 + k))), some (.inl (nI c)), some (.inl (nI (prN v k))), some (.inl (nI (cnt (cq v k) (tn (vk v k 6)) m * prN v k))), some (.inl (nI (tn (vk v k 6) + m)))] [] (mj_w I) (0, 0) := by
    intro n
    induction n with
    | zero =>
      intro m hm hs hp
      have e : cnt (cq v k) (tn (vk v k 6)) m = s := by
        have : arr v k = cnt (cq v k) (tn (vk v k 6)) m := by rw [ha, show tn (v 0) - tn (vk v k 6) = m by omega]
        omega
      refine J_ild S_X0_payArrears rfl rfl ?_
      refine J_ald S_X0_payArrears rfl rfl ?_
      refine J_getR S_X0_payArrears rfl (by assumption) (by omega) rfl ?_
      refine J_getI S_X0_payArrears rfl (by assumption) (by omega) ?_
      rw [hR.1, hen.1]
      refine J_cmp S_X0_payArrears rfl (fun c24 => ?_) (fun c24 => False.elim (c24 (nI_le (by omega) (by have := hen.2; omega))))
      rw [e]
      exact done _ (by rw [hp]; rfl)
    | succ n ih =>
      intro m hm hs hp
      have hj : tn (vk v k 6) + m < tn (v 0) := by omega
      have hcl := hI.cl_lt hj
      have hce := (hR.2.2.2.1 _ hj).1
      have hcc := C_con hB' hR hk he hcl
      rw [pl] at hp
      cases hq : cs v k (cl v (tn (vk v k 6) + m))
      · have hqq : cq v k (tn (vk v k 6) + m) = false := hq
        rw [hq] at hcc
        rw [if_neg (by rw [hqq]; decide)] at hp
        have ec : cnt (cq v k) (tn (vk v k 6)) (m + 1) = cnt (cq v k) (tn (vk v k 6)) m := by rw [cnt, if_neg (by rw [hqq]; decide)]; rfl
        refine J_ild S_X0_payArrears rfl rfl ?_
        refine J_ald S_X0_payArrears rfl rfl ?_
        refine J_getR S_X0_payArrears rfl (by assumption) (by omega) rfl ?_
        refine J_getI S_X0_payArrears rfl (by assumption) (by omega) ?_
        rw [hR.1, hen.1]
        refine J_cmp S_X0_payArrears rfl (fun c24 => False.elim (nI_ge hj (by have := hen.2; omega) c24)) (fun c24 => ?_)
        refine J_ald S_X0_payArrears rfl rfl ?_
        refine J_ald S_X0_payArrears rfl rfl ?_
        refine J_getR S_X0_payArrears rfl (by assumption) (by omega) rfl ?_
        refine J_ild S_X0_payArrears rfl rfl ?_
        refine J_CVx S_X0_payArrears rfl rfl (by assumption) (by omega) (by simp) (C_X2_cell hB' (by have := hen.2; omega)) rfl ?_
        rw [hce]
        refine J_CVx S_X0_payArrears rfl rfl (by assumption) (by omega) (by simp) (hcc) rfl ?_
        refine J_if S_X0_payArrears rfl (fun c40 => ?_) (fun c40 => False.elim (c40 rfl))
        refine J_inc S_X0_payArrears rfl rfl rfl ?_
        refine J_goto S_X0_payArrears rfl ?_
        rw [← nI_succ, ← ec]
        exact ih (m + 1) (by omega) (by omega) (by rw [hp, ec]; rfl)
      · have hqq : cq v k (tn (vk v k 6) + m) = true := hq
        rw [hq] at hcc
        rw [if_pos hqq] at hp
        have ec : cnt (cq v k) (tn (vk v k 6)) (m + 1) = cnt (cq v k) (tn (vk v k 6)) m + 1 := by rw [cnt, if_pos hqq]
        have hle : cnt (cq v k) (tn (vk v k 6)) (m + 1) ≤ arr v k := by
          rw [ha]
          have : ∀ (y x : Nat), cnt (cq v k) (tn (vk v k 6)) x ≤ cnt (cq v k) (tn (vk v k 6)) (x + y) := by
            intro y
            induction y with
            | zero => intro x; exact Nat.le_refl _
            | succ y ihy => intro x; rw [← Nat.add_assoc, cnt]; have := ihy x; omega
          have := this (tn (v 0) - tn (vk v k 6) - (m + 1)) (m + 1)
          rw [show m + 1 + (tn (v 0) - tn (vk v k 6) - (m + 1)) = tn (v 0) - tn (vk v k 6) by omega] at this
          exact this
        have emul : nI (cnt (cq v k) (tn (vk v k 6)) m * prN v k) + nI (prN v k) = nI (cnt (cq v k) (tn (vk v k 6)) (m + 1) * prN v k) := by rw [nI_add, ec, Nat.add_mul, Nat.one_mul]
        have hbig : cnt (cq v k) (tn (vk v k 6)) (m + 1) * prN v k < 2 ^ 31 := by
          have h1 := cnt_le (cq v k) (tn (vk v k 6)) (m + 1)
          have h2 := hen.2
          have : cnt (cq v k) (tn (vk v k 6)) (m + 1) * prN v k ≤ 201 * 40 := Nat.mul_le_mul (by omega) p3
          omega
        by_cases hlt : cnt (cq v k) (tn (vk v k 6)) m = s
        · have hbr : c < cnt (cq v k) (tn (vk v k 6)) (m + 1) * prN v k := by rw [ec, hlt]; exact hs3 (by omega)
          rw [if_pos (by omega)] at hp
          refine J_ild S_X0_payArrears rfl rfl ?_
          refine J_ald S_X0_payArrears rfl rfl ?_
          refine J_getR S_X0_payArrears rfl (by assumption) (by omega) rfl ?_
          refine J_getI S_X0_payArrears rfl (by assumption) (by omega) ?_
          rw [hR.1, hen.1]
          refine J_cmp S_X0_payArrears rfl (fun c24 => False.elim (nI_ge hj (by have := hen.2; omega) c24)) (fun c24 => ?_)
          refine J_ald S_X0_payArrears rfl rfl ?_
          refine J_ald S_X0_payArrears rfl rfl ?_
          refine J_getR S_X0_payArrears rfl (by assumption) (by omega) rfl ?_
          refine J_ild S_X0_payArrears rfl rfl ?_
          refine J_CVx S_X0_payArrears rfl rfl (by assumption) (by omega) (by simp) (C_X2_cell hB' (by have := hen.2; omega)) rfl ?_
          rw [hce]
          refine J_CVx S_X0_payArrears rfl rfl (by assumption) (by omega) (by simp) (hcc) rfl ?_
          refine J_if S_X0_payArrears rfl (fun c40 => False.elim (absurd c40 (by decide))) (fun c40 => ?_)
          refine J_ild S_X0_payArrears rfl rfl ?_
          refine J_ild S_X0_payArrears rfl rfl ?_
          refine J_bin S_X0_payArrears rfl ?_
          rw [emul]
          refine J_ild S_X0_payArrears rfl rfl ?_
          refine J_cmp S_X0_payArrears rfl (fun c48 => False.elim (nI_ge hbr hbig c48)) (fun c48 => ?_)
          refine J_goto S_X0_payArrears rfl ?_
          rw [hlt]
          exact done _ hp.symm
        · have hfit : cnt (cq v k) (tn (vk v k 6)) (m + 1) * prN v k ≤ c := by
            have : cnt (cq v k) (tn (vk v k 6)) (m + 1) ≤ s := by omega
            exact Nat.le_trans (Nat.mul_le_mul_right _ this) hs2
          rw [if_neg (by omega)] at hp
          refine J_ild S_X0_payArrears rfl rfl ?_
          refine J_ald S_X0_payArrears rfl rfl ?_
          refine J_getR S_X0_payArrears rfl (by assumption) (by omega) rfl ?_
          refine J_getI S_X0_payArrears rfl (by assumption) (by omega) ?_
          rw [hR.1, hen.1]
          refine J_cmp S_X0_payArrears rfl (fun c24 => False.elim (nI_ge hj (by have := hen.2; omega) c24)) (fun c24 => ?_)
          refine J_ald S_X0_payArrears rfl rfl ?_
          refine J_ald S_X0_payArrears rfl rfl ?_
          refine J_getR S_X0_payArrears rfl (by assumption) (by omega) rfl ?_
          refine J_ild S_X0_payArrears rfl rfl ?_
          refine J_CVx S_X0_payArrears rfl rfl (by assumption) (by omega) (by simp) (C_X2_cell hB' (by have := hen.2; omega)) rfl ?_
          rw [hce]
          refine J_CVx S_X0_payArrears rfl rfl (by assumption) (by omega) (by simp) (hcc) rfl ?_
          refine J_if S_X0_payArrears rfl (fun c40 => False.elim (absurd c40 (by decide))) (fun c40 => ?_)
          refine J_ild S_X0_payArrears rfl rfl ?_
          refine J_ild S_X0_payArrears rfl rfl ?_
          refine J_bin S_X0_payArrears rfl ?_
          rw [emul]
          refine J_ild S_X0_payArrears rfl rfl ?_
          refine J_cmp S_X0_payArrears rfl (fun c48 => ?_) (fun c48 => False.elim (c48 (nI_le hfit (by omega))))
          refine J_ild S_X0_payArrears rfl rfl ?_
          refine J_ild S_X0_payArrears rfl rfl ?_
          refine J_bin S_X0_payArrears rfl ?_
          rw [emul]
          refine J_ist S_X0_payArrears rfl rfl ?_
          refine J_inc S_X0_payArrears rfl rfl rfl ?_
          refine J_goto S_X0_payArrears rfl ?_
          rw [← nI_succ]
          exact ih (m + 1) (by omega) (by omega) (by rw [hp, ec, Nat.sub_sub]; rfl)
  refine J_ald S_X0_payArrears rfl rfl ?_
  refine J_ald S_X0_payArrears rfl rfl ?_
  refine J_CVx S_X0_payArrears rfl rfl (by assumption) (by omega) (by simp) (C_X0_price hB' hR hI hk he) rfl ?_
  rw [p1]
  refine J_ist S_X0_payArrears rfl rfl ?_
  refine J_C S_X0_payArrears rfl ?_
  refine J_ist S_X0_payArrears rfl rfl ?_
  refine J_ald S_X0_payArrears rfl rfl ?_
  refine J_getI S_X0_payArrears rfl (by assumption) (by omega) ?_
  refine J_ist S_X0_payArrears rfl rfl ?_
  rw [r8, w6.1]
  have h := key (tn (v 0) - tn (vk v k 6)) 0 (by have := w6.2; omega) (Nat.zero_le _) rfl
  rw [show cnt (cq v k) (tn (vk v k 6)) 0 * prN v k = 0 from Nat.zero_mul _] at h
  exact h
end Py
