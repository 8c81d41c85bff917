theorem s_313 : mj_sh 313 = (10, 18) := by decide +kernel
theorem s_314 : mj_sh 314 = (11, 2063) := by decide +kernel
theorem s_315 : mj_sh 315 = (11, 10315) := by decide +kernel
theorem s_316 : mj_sh 316 = (11, 40) := by decide +kernel
theorem s_317 : mj_sh 317 = (11, 24) := by decide +kernel
theorem s_318 : mj_sh 318 = (11, 8) := by decide +kernel
theorem s_319 : mj_sh 319 = (11, 8) := by decide +kernel
theorem s_320 : mj_sh 320 = (11, 8) := by decide +kernel
theorem bi_dec (P : Prop) [Decidable P] : bi (decide P) = if P then 1 else 0 := by
  unfold bi
  by_cases h : P <;> simp [h]
theorem C_X10_in {I : mj_I} {x lo hi : Int32} : mj_R D_X10_in [.inl x, .inl lo, .inl hi] (mj_w I) (mj_ex (some (.inl (bi (decide (lo ≤ x) && decide (x ≤ hi))))) I) := by
  refine mj_enter (by decide +kernel) (Nat.le_of_ble_eq_true rfl) ?_
  refine J_ild S_X10_in rfl rfl ?_
  refine J_ild S_X10_in rfl rfl ?_
  refine J_cmp S_X10_in rfl (fun c2 => ?_) (fun c2 => ?_)
  · refine J_C S_X10_in rfl ?_
    refine J_retZ S_X10_in rfl (by decide) ?_
    rw [decide_eq_false (Int32.not_le.mpr c2)]; exact ⟨rfl, rfl⟩
  · refine J_ild S_X10_in rfl rfl ?_
    refine J_ild S_X10_in rfl rfl ?_
    refine J_cmp S_X10_in rfl (fun c7 => ?_) (fun c7 => ?_)
    · refine J_C S_X10_in rfl ?_
      refine J_retZ S_X10_in rfl (by decide) ?_
      rw [decide_eq_false (Int32.not_le.mpr c7), Bool.and_false]; exact ⟨rfl, rfl⟩
    · refine J_C S_X10_in rfl ?_
      refine J_goto S_X10_in rfl ?_
      refine J_retZ S_X10_in rfl (by decide) ?_
      rw [decide_eq_true (Int32.not_lt.mp c2), decide_eq_true (Int32.not_lt.mp c7)]; exact ⟨rfl, rfl⟩
theorem s_31 : ∀ i, i < 31 → ((nI i &&& 31).toBitVec.smod 32).toNat = i := by decide
theorem C_X10_has {I : mj_I} {m i : Nat} (hm : m < 2 ^ 31) (hi : i < 31) : mj_R D_X10_has [.inl (nI m), .inl (nI i)] (mj_w I) (mj_ex (some (.inl (bi (m.testBit i)))) I) := by
  have e : (nI m >>> (nI i &&& 31)) &&& 1 = nI (m / 2 ^ i % 2) := by
    rw [pk_shrN hm _ i (s_31 i hi), pk_andN (Nat.lt_of_le_of_lt (Nat.div_le_self _ _) (by omega)) 1 (by decide)]
  have e2 : m.testBit i = decide (m / 2 ^ i % 2 = 1) := Nat.testBit_eq_decide_div_mod_eq
  have h2 : m / 2 ^ i % 2 < 2 := Nat.mod_lt _ (by decide)
  refine mj_enter (by decide +kernel) (Nat.le_of_ble_eq_true rfl) ?_
  refine J_ild S_X10_has rfl rfl ?_
  refine J_ild S_X10_has rfl rfl ?_
  refine J_bin S_X10_has rfl ?_
  refine J_C S_X10_has rfl ?_
  refine J_bin S_X10_has rfl ?_
  refine J_C S_X10_has rfl ?_
  rw [e]
  refine J_cmp S_X10_has rfl (fun c6 => ?_) (fun c6 => ?_)
  · refine J_C S_X10_has rfl ?_
    refine J_retZ S_X10_has rfl (by decide) ?_
    rw [e2, decide_eq_false (fun h => c6 (by rw [h]; rfl))]; exact ⟨rfl, rfl⟩
  · refine J_C S_X10_has rfl ?_
    refine J_goto S_X10_has rfl ?_
    refine J_retZ S_X10_has rfl (by decide) ?_
    rw [e2, decide_eq_true ((nI_eq (b := 1) (by omega) (by decide)).mp c6)]; exact ⟨rfl, rfl⟩
theorem C_X10_v {I : mj_I} {k f : Nat} : mj_R D_X10_v [.inl (nI k), .inl (nI f)] (mj_w I) (mj_ex (some (.inl (nI (615 + 9 * k + f)))) I) := by
  refine mj_enter (by decide +kernel) (Nat.le_of_ble_eq_true rfl) ?_
  refine J_C S_X10_v rfl ?_
  refine J_C S_X10_v rfl ?_
  refine J_ild S_X10_v rfl rfl ?_
  refine J_bin S_X10_v rfl ?_
  refine J_bin S_X10_v rfl ?_
  refine J_ild S_X10_v rfl rfl ?_
  refine J_bin S_X10_v rfl ?_
  refine J_retI S_X10_v rfl ?_
  refine ⟨?_, rfl⟩; rw [← nI_add, ← nI_add, ← pk_mul]; rfl
theorem C_X10_c {I : mj_I} {k f : Nat} : mj_R D_X10_c [.inl (nI k), .inl (nI f)] (mj_w I) (mj_ex (some (.inl (nI (15 + 3 * k + f)))) I) := by
  refine mj_enter (by decide +kernel) (Nat.le_of_ble_eq_true rfl) ?_
  refine J_C S_X10_c rfl ?_
  refine J_C S_X10_c rfl ?_
  refine J_ild S_X10_c rfl rfl ?_
  refine J_bin S_X10_c rfl ?_
  refine J_bin S_X10_c rfl ?_
  refine J_ild S_X10_c rfl rfl ?_
  refine J_bin S_X10_c rfl ?_
  refine J_retI S_X10_c rfl ?_
  refine ⟨?_, rfl⟩; rw [← nI_add, ← nI_add, ← pk_mul]; rfl
section Md
variable {I : mj_I}
theorem C_X10_isView (hI : IV (I 314)) {x : Int32} : mj_R D_X10_isView [.inr (some 313), .inl x] (mj_w I) (mj_ex (some (.inl (bi (isV (I 314) x)))) I) := by
  have m0 := s_313
  have m1 := s_314
  have hd := hI.2.1
  have hin := C_X10_in (I := I) (x := x) (lo := 0) (hi := I 314 1 - 1)
  refine mj_enter (by decide +kernel) (Nat.le_of_ble_eq_true rfl) ?_
  rcases pk_ix x (n := tn (I 314 1)) (by have := hd.2; omega) with hx | hx | ⟨j, hj, rfl⟩
  · have e : isV (I 314) x = false := by unfold isV; rw [decide_eq_false (Int32.not_le.mpr hx)]; rfl
    rw [decide_eq_false (Int32.not_le.mpr hx)] at hin
    rw [e]
    refine J_ild S_X10_isView rfl rfl ?_
    refine J_C S_X10_isView rfl ?_
    refine J_ald S_X10_isView rfl rfl ?_
    refine J_getR S_X10_isView rfl (o' := 314) (by assumption) (by omega) rfl ?_
    refine J_C S_X10_isView rfl ?_
    refine J_iald S_X10_isView rfl (by assumption) (by omega) (j := 1) (show (1 : Int32) = nI 1 from rfl) (by omega) (by decide) ?_
    refine J_C S_X10_isView rfl ?_
    refine J_bin S_X10_isView rfl ?_
    refine J_CSx S_X10_isView rfl rfl (by simp) (hin) rfl ?_
    refine J_if S_X10_isView rfl (fun c13 => ?_) (fun c13 => False.elim (c13 rfl))
    refine J_C S_X10_isView rfl ?_
    refine J_retZ S_X10_isView rfl (by decide) ?_
    exact ⟨rfl, rfl⟩
  · have e : isV (I 314) x = false := by
      rcases pk_ix x (n := 8) (by decide) with h | h | ⟨j, hj, rfl⟩
      · unfold isV; rw [decide_eq_false (Int32.not_le.mpr h)]; rfl
      · unfold isV; rw [decide_eq_false (show ¬ x < 8 from Int32.not_lt.mpr h)]; simp
      · rw [isV_nI hj]
        exact ex_f (hI.2.2.2.2.2.2 j ((nI_leI (by have := hd.2; omega) (by omega)).mp hx) hj)
    have e2 : decide (x ≤ I 314 1 - 1) = false := by
      refine decide_eq_false (Int32.not_le.mpr ?_)
      rw [hd.1]
      rcases Nat.eq_zero_or_pos (tn (I 314 1)) with h0 | h0
      · rw [h0] at hx ⊢
        exact Int32.lt_of_lt_of_le (by decide) hx
      · obtain ⟨q, hq⟩ : ∃ q, tn (I 314 1) = q + 1 := ⟨tn (I 314 1) - 1, by omega⟩
        rw [hq] at hx ⊢
        rw [nI_pred]
        exact Int32.lt_of_lt_of_le (nI_lt (by omega) (by have := hd.2; omega)) hx
    rw [e2, Bool.and_false] at hin
    rw [e]
    refine J_ild S_X10_isView rfl rfl ?_
    refine J_C S_X10_isView rfl ?_
    refine J_ald S_X10_isView rfl rfl ?_
    refine J_getR S_X10_isView rfl (o' := 314) (by assumption) (by omega) rfl ?_
    refine J_C S_X10_isView rfl ?_
    refine J_iald S_X10_isView rfl (by assumption) (by omega) (j := 1) (show (1 : Int32) = nI 1 from rfl) (by omega) (by decide) ?_
    refine J_C S_X10_isView rfl ?_
    refine J_bin S_X10_isView rfl ?_
    refine J_CSx S_X10_isView rfl rfl (by simp) (hin) rfl ?_
    refine J_if S_X10_isView rfl (fun c13 => ?_) (fun c13 => False.elim (c13 rfl))
    refine J_C S_X10_isView rfl ?_
    refine J_retZ S_X10_isView rfl (by decide) ?_
    exact ⟨rfl, rfl⟩
  · have h8 := hd.2
    have hj8 : j < 8 := by omega
    rw [isV_nI hj8]
    have e2 : decide (nI j ≤ I 314 1 - 1) = true := by
      refine decide_eq_true ?_
      obtain ⟨q, hq⟩ : ∃ q, tn (I 314 1) = q + 1 := ⟨tn (I 314 1) - 1, by omega⟩
      rw [hd.1, hq, nI_pred]
      exact nI_le (by omega) (by omega)
    rw [e2, decide_eq_true (show (0 : Int32) ≤ nI j from nI_pos' (by omega))] at hin
    have hv := C_X10_v (I := I) (k := j) (f := 4)
    refine J_ild S_X10_isView rfl rfl ?_
    refine J_C S_X10_isView rfl ?_
    refine J_ald S_X10_isView rfl rfl ?_
    refine J_getR S_X10_isView rfl (o' := 314) (by assumption) (by omega) rfl ?_
    refine J_C S_X10_isView rfl ?_
    refine J_iald S_X10_isView rfl (by assumption) (by omega) (j := 1) (show (1 : Int32) = nI 1 from rfl) (by omega) (by decide) ?_
    refine J_C S_X10_isView rfl ?_
    refine J_bin S_X10_isView rfl ?_
    refine J_CSx S_X10_isView rfl rfl (by simp) (hin) rfl ?_
    refine J_if S_X10_isView rfl (fun c13 => False.elim (absurd c13 (by decide))) (fun c13 => ?_)
    refine J_ald S_X10_isView rfl rfl ?_
    refine J_getR S_X10_isView rfl (o' := 314) (by assumption) (by omega) rfl ?_
    refine J_ild S_X10_isView rfl rfl ?_
    refine J_C S_X10_isView rfl ?_
    refine J_CSx S_X10_isView rfl rfl (by simp) (hv) rfl ?_
    refine J_iald S_X10_isView rfl (by assumption) (by omega) rfl (by omega) (by decide) ?_
    refine J_C S_X10_isView rfl ?_
    refine J_cmp S_X10_isView rfl (fun c27 => ?_) (fun c27 => ?_)
    · refine J_C S_X10_isView rfl ?_
      refine J_retZ S_X10_isView rfl (by decide) ?_
      rw [ex_f ((hI.b01 hj8).resolve_right c27)]; exact ⟨rfl, rfl⟩
    · refine J_C S_X10_isView rfl ?_
      refine J_goto S_X10_isView rfl ?_
      refine J_retZ S_X10_isView rfl (by decide) ?_
      rw [ex_t c27]; exact ⟨rfl, rfl⟩
theorem C_X10_isBankrupt {k : Nat} (hk : k < 8) : mj_R D_X10_isBankrupt [.inr (some 313), .inl (nI k)] (mj_w I) (mj_ex (some (.inl (bi (decide (vk (I 314) k 5 = 1))))) I) := by
  have m0 := s_313
  have m1 := s_314
  have hv := C_X10_v (I := I) (k := k) (f := 5)
  refine mj_enter (by decide +kernel) (Nat.le_of_ble_eq_true rfl) ?_
  refine J_ald S_X10_isBankrupt rfl rfl ?_
  refine J_getR S_X10_isBankrupt rfl (o' := 314) (by assumption) (by omega) rfl ?_
  refine J_ild S_X10_isBankrupt rfl rfl ?_
  refine J_C S_X10_isBankrupt rfl ?_
  refine J_CSx S_X10_isBankrupt rfl rfl (by simp) (hv) rfl ?_
  refine J_iald S_X10_isBankrupt rfl (by assumption) (by omega) rfl (by omega) (by decide) ?_
  refine J_C S_X10_isBankrupt rfl ?_
  refine J_cmp S_X10_isBankrupt rfl (fun c11 => ?_) (fun c11 => ?_)
  · refine J_C S_X10_isBankrupt rfl ?_
    refine J_retZ S_X10_isBankrupt rfl (by decide) ?_
    rw [decide_eq_false (show ¬ vk (I 314) k 5 = 1 from c11)]; exact ⟨rfl, rfl⟩
  · refine J_C S_X10_isBankrupt rfl ?_
    refine J_goto S_X10_isBankrupt rfl ?_
    refine J_retZ S_X10_isBankrupt rfl (by decide) ?_
    rw [decide_eq_true (show vk (I 314) k 5 = 1 from c11)]; exact ⟨rfl, rfl⟩
theorem msk_zero {p : Nat → Bool} {a : Nat} : ∀ {n : Nat}, a ≤ n → (∀ i, a ≤ i → i < n → p i = false) → msk p n = msk p a
  | 0, h, _ => by rw [show a = 0 by omega]
  | n + 1, h, hp => by
    rcases Nat.lt_or_ge n a with g | g
    · rw [show a = n + 1 by omega]
    · rw [msk, hp n g (by omega), msk_zero g (fun i h1 h2 => hp i h1 (by omega))]
      rfl
/-- one view's turn in the reference's loop -/
theorem cs_eq {v : mv} (k c : Nat) : cs v k c = (if vk v k 0 = 4 then tb_n (fun _ => false) (cs_s v) k (tn (vk v k 2)) c || tb_n (fun _ => false) (cs_s v) k (tn (vk v k 3)) c else (decide (tn (vk v k 2) ≤ c % 12) && decide (c % 12 ≤ tn (vk v k 3))) && (decide (vk v k 0 = 3) || decide (tn (vk v k 1) = c / 12))) := rfl
theorem C_X10_concerned (hI : IV (I 314)) {j : Nat} (hj : j < tn (I 314 0)) : mj_R D_X10_concerned [.inr (some 313), .inl (nI j)] (mj_w I) (mj_ex (some (.inl (nI (msk (fun k => ex (I 314) k && cs (I 314) k (cl (I 314) j)) 8)))) I) := by
  have m0 := s_313
  have m1 := s_314
  have hd := hI.2.1
  have hl := hI.1.2
  obtain ⟨t1, t2, -⟩ := hI.2.2.2.2.1 j hj
  have hc12 : cl (I 314) j % 12 = tn (I 314 (16 + 3 * j)) := by unfold cl; have := t2.2; omega
  have hd12 : cl (I 314) j / 12 = tn (I 314 (15 + 3 * j)) := by unfold cl; have := t2.2; omega
  obtain ⟨df, hdf, hdl⟩ : ∃ d, I 314 1 = nI d ∧ d ≤ 8 := ⟨_, hd.1, hd.2⟩
  have hdt : tn (I 314 1) = df := by rw [hdf, tn_nI (by omega)]
  refine mj_enter (by decide +kernel) (Nat.le_of_ble_eq_true rfl) ?_
  generalize hp : (fun k => ex (I 314) k && cs (I 314) k (cl (I 314) j)) = p
  have hz : msk p 8 = msk p df := msk_zero hdl (fun i h1 h2 => by rw [← hp]; show (ex (I 314) i && _) = false; rw [ex_f (hI.2.2.2.2.2.2 i (by omega) h2)]; rfl)
  have key : ∀ (n k : Nat) (q4 q5 q6 q7 : Option mj_V), k + n = df → mj_J D_X10_concerned (mj_ex (some (.inl (nI (msk p 8)))) I) 4 [some (.inr (some 313)), some (.inl (nI j)), some (.inl (nI (msk p k))), some (.inl (nI k)), q4, q5, q6, q7] [] (mj_w I) (0, 0) := by
    intro n
    induction n with
    | zero =>
      intro k q4 q5 q6 q7 hk
      obtain rfl : k = df := by omega
      refine J_ild S_X10_concerned rfl rfl ?_
      refine J_ald S_X10_concerned rfl rfl ?_
      refine J_getR S_X10_concerned rfl (o' := 314) (by assumption) (by omega) rfl ?_
      refine J_C S_X10_concerned rfl ?_
      refine J_iald S_X10_concerned rfl (by assumption) (by omega) (j := 1) (show (1 : Int32) = nI 1 from rfl) (by omega) (by decide) ?_
      rw [hdf]
      refine J_cmp S_X10_concerned rfl (fun c11 => ?_) (fun c11 => False.elim (c11 (nI_le (Nat.le_refl _) (by omega))))
      refine J_ild S_X10_concerned rfl rfl ?_
      refine J_retI S_X10_concerned rfl ?_
      rw [hz]; exact ⟨rfl, rfl⟩
    | succ n ih =>
      intro k q4 q5 q6 q7 hk
      have hkd : k < df := by omega
      have hk8 : k < 8 := by omega
      have hw := hI.2.2.2.2.2.1 k (by omega)
      obtain ⟨w4, w0, w1, -, w2, w3, wp, wr, wx, -⟩ := hw
      have hv0 := C_X10_v (I := I) (k := k) (f := 0)
      have hv1 := C_X10_v (I := I) (k := k) (f := 1)
      have hv2 := C_X10_v (I := I) (k := k) (f := 2)
      have hv3 := C_X10_v (I := I) (k := k) (f := 3)
      have hv4 := C_X10_v (I := I) (k := k) (f := 4)
      have hc0 := C_X10_c (I := I) (k := j) (f := 0)
      have hc1 := C_X10_c (I := I) (k := j) (f := 1)
      have hm8 : msk p k < 2 ^ 31 := Nat.lt_of_lt_of_le (msk_lt p k) (Nat.pow_le_pow_right (by decide) (by omega))
      have g1 : I 314 (615 + 9 * k + 1) = nI (tn (vk (I 314) k 1)) := w1.1
      have g2 : I 314 (615 + 9 * k + 2) = nI (tn (vk (I 314) k 2)) := w2.1
      have g3 : I 314 (615 + 9 * k + 3) = nI (tn (vk (I 314) k 3)) := w3.1
      -- behind 'its'
      have tail : ∀ (its : Bool), (vk (I 314) k 4 = 1 → its = cs (I 314) k (cl (I 314) j)) → ∀ (q4 q5 q6 q7 : Option mj_V), mj_J D_X10_concerned (mj_ex (some (.inl (nI (msk p 8)))) I) 136 [some (.inr (some 313)), some (.inl (nI j)), some (.inl (nI (msk p k))), some (.inl (nI k)), q4, q5, q6, q7] [.inl (bi its)] (mj_w I) (0, 0) := by
        intro its hits q4 q5 q6 q7
        have e0 : ∀ b : Bool, p k = b → nI (msk p k) ||| (if b = true then 1 <<< (nI k &&& 31) else 0) = nI (msk p (k + 1)) := by
          intro b hb
          rw [msk, hb]
          cases b
          · simp
          · simp only [if_true]; exact msk_or1 p k (by omega)
        rcases w4 with he | he
        · have hpk : p k = false := by rw [← hp]; show (ex (I 314) k && _) = false; rw [ex_f he]; rfl
          have e1 := e0 false hpk
          simp only [Bool.false_eq_true, if_false] at e1
          cases its
          · refine J_ist S_X10_concerned rfl rfl ?_
            refine J_ild S_X10_concerned rfl rfl ?_
            refine J_ild S_X10_concerned rfl rfl ?_
            refine J_if S_X10_concerned rfl (fun c141 => ?_) (fun c141 => False.elim (c141 rfl))
            refine J_C S_X10_concerned rfl ?_
            refine J_bin S_X10_concerned rfl ?_
            refine J_ist S_X10_concerned rfl rfl ?_
            refine J_inc S_X10_concerned rfl rfl rfl ?_
            refine J_goto S_X10_concerned rfl ?_
            rw [← nI_succ, e1]
            exact ih (k + 1) _ _ _ _ (by omega)
          · refine J_ist S_X10_concerned rfl rfl ?_
            refine J_ild S_X10_concerned rfl rfl ?_
            refine J_ild S_X10_concerned rfl rfl ?_
            refine J_if S_X10_concerned rfl (fun c141 => False.elim (absurd c141 (by decide))) (fun c141 => ?_)
            refine J_ald S_X10_concerned rfl rfl ?_
            refine J_getR S_X10_concerned rfl (o' := 314) (by assumption) (by omega) rfl ?_
            refine J_ild S_X10_concerned rfl rfl ?_
            refine J_C S_X10_concerned rfl ?_
            refine J_CSx S_X10_concerned rfl rfl (by simp) (hv4) rfl ?_
            refine J_iald S_X10_concerned rfl (by assumption) (by omega) rfl (by omega) (by decide) ?_
            refine J_C S_X10_concerned rfl ?_
            refine J_cmp S_X10_concerned rfl (fun c155 => ?_) (fun c155 => False.elim (absurd (c155.symm.trans he) (by decide)))
            refine J_C S_X10_concerned rfl ?_
            refine J_bin S_X10_concerned rfl ?_
            refine J_ist S_X10_concerned rfl rfl ?_
            refine J_inc S_X10_concerned rfl rfl rfl ?_
            refine J_goto S_X10_concerned rfl ?_
            rw [← nI_succ, e1]
            exact ih (k + 1) _ _ _ _ (by omega)
        · have hpk : p k = its := by rw [← hp]; show (ex (I 314) k && _) = _; rw [ex_t he, hits he]; rfl
          cases its
          · have e1 := e0 false hpk
            simp only [Bool.false_eq_true, if_false] at e1
            refine J_ist S_X10_concerned rfl rfl ?_
            refine J_ild S_X10_concerned rfl rfl ?_
            refine J_ild S_X10_concerned rfl rfl ?_
            refine J_if S_X10_concerned rfl (fun c141 => ?_) (fun c141 => False.elim (c141 rfl))
            refine J_C S_X10_concerned rfl ?_
            refine J_bin S_X10_concerned rfl ?_
            refine J_ist S_X10_concerned rfl rfl ?_
            refine J_inc S_X10_concerned rfl rfl rfl ?_
            refine J_goto S_X10_concerned rfl ?_
            rw [← nI_succ, e1]
            exact ih (k + 1) _ _ _ _ (by omega)
          · have e1 := e0 true hpk
            simp only [if_true] at e1
            refine J_ist S_X10_concerned rfl rfl ?_
            refine J_ild S_X10_concerned rfl rfl ?_
            refine J_ild S_X10_concerned rfl rfl ?_
            refine J_if S_X10_concerned rfl (fun c141 => False.elim (absurd c141 (by decide))) (fun c141 => ?_)
            refine J_ald S_X10_concerned rfl rfl ?_
            refine J_getR S_X10_concerned rfl (o' := 314) (by assumption) (by omega) rfl ?_
            refine J_ild S_X10_concerned rfl rfl ?_
            refine J_C S_X10_concerned rfl ?_
            refine J_CSx S_X10_concerned rfl rfl (by simp) (hv4) rfl ?_
            refine J_iald S_X10_concerned rfl (by assumption) (by omega) rfl (by omega) (by decide) ?_
            refine J_C S_X10_concerned rfl ?_
            refine J_cmp S_X10_concerned rfl (fun c155 => False.elim (c155 he)) (fun c155 => ?_)
            refine J_C S_X10_concerned rfl ?_
            refine J_ild S_X10_concerned rfl rfl ?_
            refine J_bin S_X10_concerned rfl ?_
            refine J_goto S_X10_concerned rfl ?_
            refine J_bin S_X10_concerned rfl ?_
            refine J_ist S_X10_concerned rfl rfl ?_
            refine J_inc S_X10_concerned rfl rfl rfl ?_
            refine J_goto S_X10_concerned rfl ?_
            rw [← nI_succ, e1]
            exact ih (k + 1) _ _ _ _ (by omega)
      by_cases h4 : vk (I 314) k 0 = 4
      · obtain ⟨ha, hb⟩ := wp h4
        have hA := C_X10_has (I := I) (i := tn (vk (I 314) k 2)) hm8 (by omega)
        have hBq := C_X10_has (I := I) (i := tn (vk (I 314) k 3)) hm8 (by omega)
        rw [msk_bit, decide_eq_true ha, Bool.true_and] at hA
        rw [msk_bit, decide_eq_true hb, Bool.true_and] at hBq
        have hits : ∀ bb : Bool, bb = (p (tn (vk (I 314) k 2)) || p (tn (vk (I 314) k 3))) → vk (I 314) k 4 = 1 → bb = cs (I 314) k (cl (I 314) j) := by
          intro bb hbb he
          obtain ⟨x1, x2⟩ := wx he h4
          rw [hbb, cs_eq, if_pos h4, tb_lt ha, tb_lt hb, ← hp]
          show ((ex (I 314) _ && _) || (ex (I 314) _ && _)) = _
          rw [ex_t x1, ex_t x2]
          rfl
        cases xa : p (tn (vk (I 314) k 2)) <;> rw [xa] at hA hits
        · cases xb : p (tn (vk (I 314) k 3)) <;> rw [xb] at hBq hits
          · refine J_ild S_X10_concerned rfl rfl ?_
            refine J_ald S_X10_concerned rfl rfl ?_
            refine J_getR S_X10_concerned rfl (o' := 314) (by assumption) (by omega) rfl ?_
            refine J_C S_X10_concerned rfl ?_
            refine J_iald S_X10_concerned rfl (by assumption) (by omega) (j := 1) (show (1 : Int32) = nI 1 from rfl) (by omega) (by decide) ?_
            rw [hdf]
            refine J_cmp S_X10_concerned rfl (fun c11 => False.elim (nI_ge hkd (by omega) c11)) (fun c11 => ?_)
            refine J_ald S_X10_concerned rfl rfl ?_
            refine J_getR S_X10_concerned rfl (o' := 314) (by assumption) (by omega) rfl ?_
            refine J_ild S_X10_concerned rfl rfl ?_
            refine J_C S_X10_concerned rfl ?_
            refine J_CSx S_X10_concerned rfl rfl (by simp) (hv0) rfl ?_
            refine J_iald S_X10_concerned rfl (by assumption) (by omega) rfl (by omega) (by decide) ?_
            refine J_ist S_X10_concerned rfl rfl ?_
            refine J_ald S_X10_concerned rfl rfl ?_
            refine J_getR S_X10_concerned rfl (o' := 314) (by assumption) (by omega) rfl ?_
            refine J_ild S_X10_concerned rfl rfl ?_
            refine J_C S_X10_concerned rfl ?_
            refine J_CSx S_X10_concerned rfl rfl (by simp) (hv2) rfl ?_
            refine J_iald S_X10_concerned rfl (by assumption) (by omega) rfl (by omega) (by decide) ?_
            refine J_ist S_X10_concerned rfl rfl ?_
            refine J_ald S_X10_concerned rfl rfl ?_
            refine J_getR S_X10_concerned rfl (o' := 314) (by assumption) (by omega) rfl ?_
            refine J_ild S_X10_concerned rfl rfl ?_
            refine J_C S_X10_concerned rfl ?_
            refine J_CSx S_X10_concerned rfl rfl (by simp) (hv3) rfl ?_
            refine J_iald S_X10_concerned rfl (by assumption) (by omega) rfl (by omega) (by decide) ?_
            refine J_ist S_X10_concerned rfl rfl ?_
            refine J_ild S_X10_concerned rfl rfl ?_
            refine J_C S_X10_concerned rfl ?_
            refine J_cmp S_X10_concerned rfl (fun c53 => False.elim (c53 h4)) (fun c53 => ?_)
            refine J_ild S_X10_concerned rfl rfl ?_
            refine J_ild S_X10_concerned rfl rfl ?_
            rw [g2]
            refine J_CSx S_X10_concerned rfl rfl (by simp) (hA) rfl ?_
            refine J_if S_X10_concerned rfl (fun c62 => False.elim (c62 rfl)) (fun c62 => ?_)
            refine J_ild S_X10_concerned rfl rfl ?_
            refine J_ild S_X10_concerned rfl rfl ?_
            rw [g3]
            refine J_CSx S_X10_concerned rfl rfl (by simp) (hBq) rfl ?_
            refine J_if S_X10_concerned rfl (fun c71 => ?_) (fun c71 => False.elim (c71 rfl))
            refine J_C S_X10_concerned rfl ?_
            refine J_goto S_X10_concerned rfl ?_
            exact tail false (hits false rfl) _ _ _ _
          · refine J_ild S_X10_concerned rfl rfl ?_
            refine J_ald S_X10_concerned rfl rfl ?_
            refine J_getR S_X10_concerned rfl (o' := 314) (by assumption) (by omega) rfl ?_
            refine J_C S_X10_concerned rfl ?_
            refine J_iald S_X10_concerned rfl (by assumption) (by omega) (j := 1) (show (1 : Int32) = nI 1 from rfl) (by omega) (by decide) ?_
            rw [hdf]
            refine J_cmp S_X10_concerned rfl (fun c11 => False.elim (nI_ge hkd (by omega) c11)) (fun c11 => ?_)
            refine J_ald S_X10_concerned rfl rfl ?_
            refine J_getR S_X10_concerned rfl (o' := 314) (by assumption) (by omega) rfl ?_
            refine J_ild S_X10_concerned rfl rfl ?_
            refine J_C S_X10_concerned rfl ?_
            refine J_CSx S_X10_concerned rfl rfl (by simp) (hv0) rfl ?_
            refine J_iald S_X10_concerned rfl (by assumption) (by omega) rfl (by omega) (by decide) ?_
            refine J_ist S_X10_concerned rfl rfl ?_
            refine J_ald S_X10_concerned rfl rfl ?_
            refine J_getR S_X10_concerned rfl (o' := 314) (by assumption) (by omega) rfl ?_
            refine J_ild S_X10_concerned rfl rfl ?_
            refine J_C S_X10_concerned rfl ?_
            refine J_CSx S_X10_concerned rfl rfl (by simp) (hv2) rfl ?_
            refine J_iald S_X10_concerned rfl (by assumption) (by omega) rfl (by omega) (by decide) ?_
            refine J_ist S_X10_concerned rfl rfl ?_
            refine J_ald S_X10_concerned rfl rfl ?_
            refine J_getR S_X10_concerned rfl (o' := 314) (by assumption) (by omega) rfl ?_
            refine J_ild S_X10_concerned rfl rfl ?_
            refine J_C S_X10_concerned rfl ?_
            refine J_CSx S_X10_concerned rfl rfl (by simp) (hv3) rfl ?_
            refine J_iald S_X10_concerned rfl (by assumption) (by omega) rfl (by omega) (by decide) ?_
            refine J_ist S_X10_concerned rfl rfl ?_
            refine J_ild S_X10_concerned rfl rfl ?_
            refine J_C S_X10_concerned rfl ?_
            refine J_cmp S_X10_concerned rfl (fun c53 => False.elim (c53 h4)) (fun c53 => ?_)
            refine J_ild S_X10_concerned rfl rfl ?_
            refine J_ild S_X10_concerned rfl rfl ?_
            rw [g2]
            refine J_CSx S_X10_concerned rfl rfl (by simp) (hA) rfl ?_
            refine J_if S_X10_concerned rfl (fun c62 => False.elim (c62 rfl)) (fun c62 => ?_)
            refine J_ild S_X10_concerned rfl rfl ?_
            refine J_ild S_X10_concerned rfl rfl ?_
            rw [g3]
            refine J_CSx S_X10_concerned rfl rfl (by simp) (hBq) rfl ?_
            refine J_if S_X10_concerned rfl (fun c71 => False.elim (absurd c71 (by decide))) (fun c71 => ?_)
            refine J_C S_X10_concerned rfl ?_
            refine J_goto S_X10_concerned rfl ?_
            exact tail true (hits true rfl) _ _ _ _
        · refine J_ild S_X10_concerned rfl rfl ?_
          refine J_ald S_X10_concerned rfl rfl ?_
          refine J_getR S_X10_concerned rfl (o' := 314) (by assumption) (by omega) rfl ?_
          refine J_C S_X10_concerned rfl ?_
          refine J_iald S_X10_concerned rfl (by assumption) (by omega) (j := 1) (show (1 : Int32) = nI 1 from rfl) (by omega) (by decide) ?_
          rw [hdf]
          refine J_cmp S_X10_concerned rfl (fun c11 => False.elim (nI_ge hkd (by omega) c11)) (fun c11 => ?_)
          refine J_ald S_X10_concerned rfl rfl ?_
          refine J_getR S_X10_concerned rfl (o' := 314) (by assumption) (by omega) rfl ?_
          refine J_ild S_X10_concerned rfl rfl ?_
          refine J_C S_X10_concerned rfl ?_
          refine J_CSx S_X10_concerned rfl rfl (by simp) (hv0) rfl ?_
          refine J_iald S_X10_concerned rfl (by assumption) (by omega) rfl (by omega) (by decide) ?_
          refine J_ist S_X10_concerned rfl rfl ?_
          refine J_ald S_X10_concerned rfl rfl ?_
          refine J_getR S_X10_concerned rfl (o' := 314) (by assumption) (by omega) rfl ?_
          refine J_ild S_X10_concerned rfl rfl ?_
          refine J_C S_X10_concerned rfl ?_
          refine J_CSx S_X10_concerned rfl rfl (by simp) (hv2) rfl ?_
          refine J_iald S_X10_concerned rfl (by assumption) (by omega) rfl (by omega) (by decide) ?_
          refine J_ist S_X10_concerned rfl rfl ?_
          refine J_ald S_X10_concerned rfl rfl ?_
          refine J_getR S_X10_concerned rfl (o' := 314) (by assumption) (by omega) rfl ?_
          refine J_ild S_X10_concerned rfl rfl ?_
          refine J_C S_X10_concerned rfl ?_
          refine J_CSx S_X10_concerned rfl rfl (by simp) (hv3) rfl ?_
          refine J_iald S_X10_concerned rfl (by assumption) (by omega) rfl (by omega) (by decide) ?_
          refine J_ist S_X10_concerned rfl rfl ?_
          refine J_ild S_X10_concerned rfl rfl ?_
          refine J_C S_X10_concerned rfl ?_
          refine J_cmp S_X10_concerned rfl (fun c53 => False.elim (c53 h4)) (fun c53 => ?_)
          refine J_ild S_X10_concerned rfl rfl ?_
          refine J_ild S_X10_concerned rfl rfl ?_
          rw [g2]
          refine J_CSx S_X10_concerned rfl rfl (by simp) (hA) rfl ?_
          refine J_if S_X10_concerned rfl (fun c62 => ?_) (fun c62 => False.elim (absurd c62 (by decide)))
          refine J_C S_X10_concerned rfl ?_
          refine J_goto S_X10_concerned rfl ?_
          exact tail true (hits true rfl) _ _ _ _
      · have hf12 := wr h4
        have b2 := w2.2
        have b3 := w3.2
        have hin := C_X10_in (I := I) (x := I 314 (15 + 3 * j + 1)) (lo := I 314 (615 + 9 * k + 2)) (hi := I 314 (615 + 9 * k + 3))
        have e16 : I 314 (15 + 3 * j + 1) = nI (tn (I 314 (16 + 3 * j))) := by rw [show 15 + 3 * j + 1 = 16 + 3 * j by omega]; exact t2.1
        have k2 := t2.2
        have hdd : (decide (I 314 (615 + 9 * k + 2) ≤ I 314 (15 + 3 * j + 1)) && decide (I 314 (15 + 3 * j + 1) ≤ I 314 (615 + 9 * k + 3))) = (decide (tn (vk (I 314) k 2) ≤ cl (I 314) j % 12) && decide (cl (I 314) j % 12 ≤ tn (vk (I 314) k 3))) := by
          rw [g2, g3, e16, hc12]
          congr 1
          · exact decide_eq_decide.mpr (nI_leI (by omega) (by omega))
          · exact decide_eq_decide.mpr (nI_leI (by omega) (by omega))
        rw [hdd] at hin
        have ecs : cs (I 314) k (cl (I 314) j) = ((decide (tn (vk (I 314) k 2) ≤ cl (I 314) j % 12) && decide (cl (I 314) j % 12 ≤ tn (vk (I 314) k 3))) && (decide (vk (I 314) k 0 = 3) || decide (tn (vk (I 314) k 1) = cl (I 314) j / 12))) := by rw [cs_eq, if_neg h4]
        generalize (decide (tn (vk (I 314) k 2) ≤ cl (I 314) j % 12) && decide (cl (I 314) j % 12 ≤ tn (vk (I 314) k 3))) = inr at hin ecs
        have k1 := t1.2
        have k3 := w1.2
        have e15 : I 314 (15 + 3 * j + 0) = nI (tn (I 314 (15 + 3 * j))) := t1.1
        have et : (I 314 (615 + 9 * k + 1) = I 314 (15 + 3 * j + 0)) ↔ tn (vk (I 314) k 1) = cl (I 314) j / 12 := by rw [g1, e15, hd12]; exact nI_eq (by omega) (by omega)
        cases inr
        · refine J_ild S_X10_concerned rfl rfl ?_
          refine J_ald S_X10_concerned rfl rfl ?_
          refine J_getR S_X10_concerned rfl (o' := 314) (by assumption) (by omega) rfl ?_
          refine J_C S_X10_concerned rfl ?_
          refine J_iald S_X10_concerned rfl (by assumption) (by omega) (j := 1) (show (1 : Int32) = nI 1 from rfl) (by omega) (by decide) ?_
          rw [hdf]
          refine J_cmp S_X10_concerned rfl (fun c11 => False.elim (nI_ge hkd (by omega) c11)) (fun c11 => ?_)
          refine J_ald S_X10_concerned rfl rfl ?_
          refine J_getR S_X10_concerned rfl (o' := 314) (by assumption) (by omega) rfl ?_
          refine J_ild S_X10_concerned rfl rfl ?_
          refine J_C S_X10_concerned rfl ?_
          refine J_CSx S_X10_concerned rfl rfl (by simp) (hv0) rfl ?_
          refine J_iald S_X10_concerned rfl (by assumption) (by omega) rfl (by omega) (by decide) ?_
          refine J_ist S_X10_concerned rfl rfl ?_
          refine J_ald S_X10_concerned rfl rfl ?_
          refine J_getR S_X10_concerned rfl (o' := 314) (by assumption) (by omega) rfl ?_
          refine J_ild S_X10_concerned rfl rfl ?_
          refine J_C S_X10_concerned rfl ?_
          refine J_CSx S_X10_concerned rfl rfl (by simp) (hv2) rfl ?_
          refine J_iald S_X10_concerned rfl (by assumption) (by omega) rfl (by omega) (by decide) ?_
          refine J_ist S_X10_concerned rfl rfl ?_
          refine J_ald S_X10_concerned rfl rfl ?_
          refine J_getR S_X10_concerned rfl (o' := 314) (by assumption) (by omega) rfl ?_
          refine J_ild S_X10_concerned rfl rfl ?_
          refine J_C S_X10_concerned rfl ?_
          refine J_CSx S_X10_concerned rfl rfl (by simp) (hv3) rfl ?_
          refine J_iald S_X10_concerned rfl (by assumption) (by omega) rfl (by omega) (by decide) ?_
          refine J_ist S_X10_concerned rfl rfl ?_
          refine J_ild S_X10_concerned rfl rfl ?_
          refine J_C S_X10_concerned rfl ?_
          refine J_cmp S_X10_concerned rfl (fun c53 => ?_) (fun c53 => False.elim (h4 c53))
          refine J_ald S_X10_concerned rfl rfl ?_
          refine J_getR S_X10_concerned rfl (o' := 314) (by assumption) (by omega) rfl ?_
          refine J_ild S_X10_concerned rfl rfl ?_
          refine J_C S_X10_concerned rfl ?_
          refine J_CSx S_X10_concerned rfl rfl (by simp) (hc1) rfl ?_
          refine J_iald S_X10_concerned rfl (by assumption) (by omega) rfl (by omega) (by decide) ?_
          refine J_ild S_X10_concerned rfl rfl ?_
          refine J_ild S_X10_concerned rfl rfl ?_
          refine J_CSx S_X10_concerned rfl rfl (by simp) (hin) rfl ?_
          refine J_if S_X10_concerned rfl (fun c99 => ?_) (fun c99 => False.elim (c99 rfl))
          refine J_C S_X10_concerned rfl ?_
          exact tail false (fun _ => by rw [ecs]; rfl) _ _ _ _
        · refine J_ild S_X10_concerned rfl rfl ?_
          refine J_ald S_X10_concerned rfl rfl ?_
          refine J_getR S_X10_concerned rfl (o' := 314) (by assumption) (by omega) rfl ?_
          refine J_C S_X10_concerned rfl ?_
          refine J_iald S_X10_concerned rfl (by assumption) (by omega) (j := 1) (show (1 : Int32) = nI 1 from rfl) (by omega) (by decide) ?_
          rw [hdf]
          refine J_cmp S_X10_concerned rfl (fun c11 => False.elim (nI_ge hkd (by omega) c11)) (fun c11 => ?_)
          refine J_ald S_X10_concerned rfl rfl ?_
          refine J_getR S_X10_concerned rfl (o' := 314) (by assumption) (by omega) rfl ?_
          refine J_ild S_X10_concerned rfl rfl ?_
          refine J_C S_X10_concerned rfl ?_
          refine J_CSx S_X10_concerned rfl rfl (by simp) (hv0) rfl ?_
          refine J_iald S_X10_concerned rfl (by assumption) (by omega) rfl (by omega) (by decide) ?_
          refine J_ist S_X10_concerned rfl rfl ?_
          refine J_ald S_X10_concerned rfl rfl ?_
          refine J_getR S_X10_concerned rfl (o' := 314) (by assumption) (by omega) rfl ?_
          refine J_ild S_X10_concerned rfl rfl ?_
          refine J_C S_X10_concerned rfl ?_
          refine J_CSx S_X10_concerned rfl rfl (by simp) (hv2) rfl ?_
          refine J_iald S_X10_concerned rfl (by assumption) (by omega) rfl (by omega) (by decide) ?_
          refine J_ist S_X10_concerned rfl rfl ?_
          refine J_ald S_X10_concerned rfl rfl ?_
          refine J_getR S_X10_concerned rfl (o' := 314) (by assumption) (by omega) rfl ?_
          refine J_ild S_X10_concerned rfl rfl ?_
          refine J_C S_X10_concerned rfl ?_
          refine J_CSx S_X10_concerned rfl rfl (by simp) (hv3) rfl ?_
          refine J_iald S_X10_concerned rfl (by assumption) (by omega) rfl (by omega) (by decide) ?_
          refine J_ist S_X10_concerned rfl rfl ?_
          refine J_ild S_X10_concerned rfl rfl ?_
          refine J_C S_X10_concerned rfl ?_
          refine J_cmp S_X10_concerned rfl (fun c53 => ?_) (fun c53 => False.elim (h4 c53))
          refine J_ald S_X10_concerned rfl rfl ?_
          refine J_getR S_X10_concerned rfl (o' := 314) (by assumption) (by omega) rfl ?_
          refine J_ild S_X10_concerned rfl rfl ?_
          refine J_C S_X10_concerned rfl ?_
          refine J_CSx S_X10_concerned rfl rfl (by simp) (hc1) rfl ?_
          refine J_iald S_X10_concerned rfl (by assumption) (by omega) rfl (by omega) (by decide) ?_
          refine J_ild S_X10_concerned rfl rfl ?_
          refine J_ild S_X10_concerned rfl rfl ?_
          refine J_CSx S_X10_concerned rfl rfl (by simp) (hin) rfl ?_
          refine J_if S_X10_concerned rfl (fun c99 => False.elim (absurd c99 (by decide))) (fun c99 => ?_)
          refine J_ild S_X10_concerned rfl rfl ?_
          refine J_C S_X10_concerned rfl ?_
          refine J_cmp S_X10_concerned rfl (fun c105 => ?_) (fun c105 => ?_)
          · refine J_C S_X10_concerned rfl ?_
            refine J_goto S_X10_concerned rfl ?_
            exact tail true (fun _ => by rw [ecs, decide_eq_true (show vk (I 314) k 0 = 3 from c105)]; rfl) _ _ _ _
          · refine J_ald S_X10_concerned rfl rfl ?_
            refine J_getR S_X10_concerned rfl (o' := 314) (by assumption) (by omega) rfl ?_
            refine J_ild S_X10_concerned rfl rfl ?_
            refine J_C S_X10_concerned rfl ?_
            refine J_CSx S_X10_concerned rfl rfl (by simp) (hv1) rfl ?_
            refine J_iald S_X10_concerned rfl (by assumption) (by omega) rfl (by omega) (by decide) ?_
            refine J_ald S_X10_concerned rfl rfl ?_
            refine J_getR S_X10_concerned rfl (o' := 314) (by assumption) (by omega) rfl ?_
            refine J_ild S_X10_concerned rfl rfl ?_
            refine J_C S_X10_concerned rfl ?_
            refine J_CSx S_X10_concerned rfl rfl (by simp) (hc0) rfl ?_
            refine J_iald S_X10_concerned rfl (by assumption) (by omega) rfl (by omega) (by decide) ?_
            refine J_cmp S_X10_concerned rfl (fun c128 => ?_) (fun c128 => ?_)
            · refine J_C S_X10_concerned rfl ?_
              exact tail false (fun _ => by rw [ecs, decide_eq_false (show ¬ vk (I 314) k 0 = 3 from c105), decide_eq_false (fun h => c128 (et.mpr h))]; rfl) _ _ _ _
            · refine J_C S_X10_concerned rfl ?_
              refine J_goto S_X10_concerned rfl ?_
              exact tail true (fun _ => by rw [ecs, decide_eq_true (et.mp c128), Bool.or_true]; rfl) _ _ _ _
  refine J_C S_X10_concerned rfl ?_
  refine J_ist S_X10_concerned rfl rfl ?_
  refine J_C S_X10_concerned rfl ?_
  refine J_ist S_X10_concerned rfl rfl ?_
  exact key df 0 _ _ _ _ (by omega)
end Md
