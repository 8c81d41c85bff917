def arrM (v : mv) (k : Nat) : Nat := if vk v k 5 = 1 then 0 else cnt (fun j => ex v k && cs v k (cl v j)) (tn (vk v k 6)) (tn (v 0) - tn (vk v k 6))
theorem arrM_ex {v : mv} {k : Nat} (he : vk v k 4 = 1) : arrM v k = arr v k := by
  unfold arrM arr
  rw [ex_t he]
  simp only [Bool.true_and]
theorem arrM_lt {v : mv} {k : Nat} : arrM v k < 2 ^ 31 := by
  unfold arrM
  split
  · decide
  · have := cnt_le (fun j => ex v k && cs v k (cl v j)) (tn (vk v k 6)) (tn (v 0) - tn (vk v k 6))
    have := tn_lt (v 0)
    omega
/-- the tables at a place -/
def tabv (v : mv) (c : Nat) : Nat → Int32
  | 0 => -1
  | n + 1 => if cl v n = c then v (17 + 3 * n) else tabv v c n
def stA (kd its x y : Int32) : Int32 :=
  if kd = 0 then its + (if x < 0 then 0 else x) else if kd = 1 then its + (if x < 0 then 0 else 1) else if kd = 2 then (if its < x then x else its) else its + (if x < 0 ∨ y < 0 then 0 else x * y)
def rgA (kd : Int32) (T : Nat → Int32) (t a : Nat) : Nat → Int32
  | 0 => if kd = 2 then -1 else 0
  | n + 1 => stA kd (rgA kd T t a n) (T (12 * t + (a + n))) (T (12 + (a + n)))
def qa (v : mv) (T A : Nat → Int32) (k : Nat) : Int32 :=
  if vk v k 0 = 4 then A (tn (vk v k 2)) - A (tn (vk v k 3)) else rgA (vk v k 0) T (tn (vk v k 1)) (tn (vk v k 2)) (tn (vk v k 3) + 1 - tn (vk v k 2))
def aq (v : mv) (n : Nat) : Nat → Int32 := tb_v 0 (fun g k => if vk v k 4 = 1 then qa v (fun c => tabv v c n) g k else 0)
section Md2
variable {I : mj_I}
theorem C_X10_arrears (hI : IV (I 314)) {k : Nat} (hk : k < tn (I 314 1)) : mj_R D_X10_arrears [.inr (some 313), .inl (nI k)] (mj_w I) (mj_ex (some (.inl (nI (arrM (I 314) k)))) I) := by
  have m0 := s_313
  have m1 := s_314
  have hd := hI.2.1.2
  have hk8 : k < 8 := by omega
  obtain ⟨en, hen, hel⟩ : ∃ d, I 314 0 = nI d ∧ d ≤ 200 := ⟨_, hI.1.1, hI.1.2⟩
  have het : tn (I 314 0) = en := by rw [hen, tn_nI (by omega)]
  obtain ⟨-, -, -, -, -, -, -, -, -, w5, w6, -, -⟩ := hI.2.2.2.2.2.1 k hk
  have g6 : I 314 (615 + 9 * k + 6) = nI (tn (vk (I 314) k 6)) := w6.1
  have w62 := w6.2
  rw [het] at w62
  have hv6 := C_X10_v (I := I) (k := k) (f := 6)
  have hbk := C_X10_isBankrupt (I := I) hk8
  refine mj_enter (by decide +kernel) (Nat.le_of_ble_eq_true rfl) ?_
  generalize hp : (fun j => ex (I 314) k && cs (I 314) k (cl (I 314) j)) = p
  have key : ∀ (n m : Nat), tn (vk (I 314) k 6) + m + n = en → ¬ vk (I 314) k 5 = 1 → mj_J D_X10_arrears (mj_ex (some (.inl (nI (arrM (I 314) k)))) I) 14 [some (.inr (some 313)), some (.inl (nI k)), some (.inl (nI (cnt p (tn (vk (I 314) k 6)) m))), some (.inl (nI (tn (vk (I 314) k 6) + m)))] [] (mj_w I) (0, 0) := by
    intro n
    induction n with
    | zero =>
      intro m hm hz
      refine J_ild S_X10_arrears rfl rfl ?_
      refine J_ald S_X10_arrears rfl rfl ?_
      refine J_getR S_X10_arrears rfl (o' := 314) (by assumption) (by omega) rfl ?_
      refine J_C S_X10_arrears rfl ?_
      refine J_iald S_X10_arrears rfl (by assumption) (by omega) (j := 0) rfl (by omega) (by decide) ?_
      rw [hen]
      refine J_cmp S_X10_arrears rfl (fun c21 => ?_) (fun c21 => False.elim (c21 (nI_le (by omega) (by omega))))
      refine J_ild S_X10_arrears rfl rfl ?_
      refine J_retI S_X10_arrears rfl ?_
      unfold arrM; rw [if_neg hz, hp, het, show en - tn (vk (I 314) k 6) = m by omega]; exact ⟨rfl, rfl⟩
    | succ n ih =>
      intro m hm hz
      have hj : tn (vk (I 314) k 6) + m < en := by omega
      have hcn := C_X10_concerned hI (j := tn (vk (I 314) k 6) + m) (by omega)
      have hh := C_X10_has (I := I) (m := msk (fun q => ex (I 314) q && cs (I 314) q (cl (I 314) (tn (vk (I 314) k 6) + m))) 8) (i := k) (Nat.lt_of_lt_of_le (msk_lt _ 8) (by decide)) (by omega)
      rw [msk_bit, decide_eq_true hk8, Bool.true_and] at hh
      have hpe : p (tn (vk (I 314) k 6) + m) = (ex (I 314) k && cs (I 314) k (cl (I 314) (tn (vk (I 314) k 6) + m))) := by rw [← hp]
      rw [← hpe] at hh
      rw [decide_eq_false hz] at hbk
      cases hq : p (tn (vk (I 314) k 6) + m) <;> rw [hq] at hh
      · refine J_ild S_X10_arrears rfl rfl ?_
        refine J_ald S_X10_arrears rfl rfl ?_
        refine J_getR S_X10_arrears rfl (o' := 314) (by assumption) (by omega) rfl ?_
        refine J_C S_X10_arrears rfl ?_
        refine J_iald S_X10_arrears rfl (by assumption) (by omega) (j := 0) rfl (by omega) (by decide) ?_
        rw [hen]
        refine J_cmp S_X10_arrears rfl (fun c21 => False.elim (nI_ge hj (by omega) c21)) (fun c21 => ?_)
        refine J_ald S_X10_arrears rfl rfl ?_
        refine J_ild S_X10_arrears rfl rfl ?_
        refine J_CVx S_X10_arrears rfl rfl (by assumption) (by omega) (by simp) (hbk) rfl ?_
        refine J_if S_X10_arrears rfl (fun c29 => False.elim (c29 rfl)) (fun c29 => ?_)
        refine J_ild S_X10_arrears rfl rfl ?_
        refine J_ald S_X10_arrears rfl rfl ?_
        refine J_ild S_X10_arrears rfl rfl ?_
        refine J_CVx S_X10_arrears rfl rfl (by assumption) (by omega) (by simp) (hcn) rfl ?_
        refine J_ild S_X10_arrears rfl rfl ?_
        refine J_CSx S_X10_arrears rfl rfl (by simp) (hh) rfl ?_
        refine J_if S_X10_arrears rfl (fun c42 => ?_) (fun c42 => False.elim (c42 rfl))
        refine J_C S_X10_arrears rfl ?_
        refine J_bin S_X10_arrears rfl ?_
        refine J_ist S_X10_arrears rfl rfl ?_
        refine J_inc S_X10_arrears rfl rfl rfl ?_
        refine J_goto S_X10_arrears rfl ?_
        rw [← nI_succ, Int32.add_zero, show cnt p (tn (vk (I 314) k 6)) m = cnt p (tn (vk (I 314) k 6)) (m + 1) by rw [cnt, if_neg (by rw [hq]; decide)]; rfl]
        exact ih (m + 1) (by omega) hz
      · refine J_ild S_X10_arrears rfl rfl ?_
        refine J_ald S_X10_arrears rfl rfl ?_
        refine J_getR S_X10_arrears rfl (o' := 314) (by assumption) (by omega) rfl ?_
        refine J_C S_X10_arrears rfl ?_
        refine J_iald S_X10_arrears rfl (by assumption) (by omega) (j := 0) rfl (by omega) (by decide) ?_
        rw [hen]
        refine J_cmp S_X10_arrears rfl (fun c21 => False.elim (nI_ge hj (by omega) c21)) (fun c21 => ?_)
        refine J_ald S_X10_arrears rfl rfl ?_
        refine J_ild S_X10_arrears rfl rfl ?_
        refine J_CVx S_X10_arrears rfl rfl (by assumption) (by omega) (by simp) (hbk) rfl ?_
        refine J_if S_X10_arrears rfl (fun c29 => False.elim (c29 rfl)) (fun c29 => ?_)
        refine J_ild S_X10_arrears rfl rfl ?_
        refine J_ald S_X10_arrears rfl rfl ?_
        refine J_ild S_X10_arrears rfl rfl ?_
        refine J_CVx S_X10_arrears rfl rfl (by assumption) (by omega) (by simp) (hcn) rfl ?_
        refine J_ild S_X10_arrears rfl rfl ?_
        refine J_CSx S_X10_arrears rfl rfl (by simp) (hh) rfl ?_
        refine J_if S_X10_arrears rfl (fun c42 => False.elim (absurd c42 (by decide))) (fun c42 => ?_)
        refine J_C S_X10_arrears rfl ?_
        refine J_goto S_X10_arrears rfl ?_
        refine J_bin S_X10_arrears rfl ?_
        refine J_ist S_X10_arrears rfl rfl ?_
        refine J_inc S_X10_arrears rfl rfl rfl ?_
        refine J_goto S_X10_arrears rfl ?_
        rw [← nI_succ, ← nI_succ, show cnt p (tn (vk (I 314) k 6)) m + 1 = cnt p (tn (vk (I 314) k 6)) (m + 1) by rw [cnt, if_pos hq]]
        exact ih (m + 1) (by omega) hz
  by_cases hz : vk (I 314) k 5 = 1
  · rw [decide_eq_true hz] at hbk
    by_cases hj : tn (vk (I 314) k 6) < en
    · refine J_C S_X10_arrears rfl ?_
      refine J_ist S_X10_arrears rfl rfl ?_
      refine J_ald S_X10_arrears rfl rfl ?_
      refine J_getR S_X10_arrears rfl (o' := 314) (by assumption) (by omega) rfl ?_
      refine J_ild S_X10_arrears rfl rfl ?_
      refine J_C S_X10_arrears rfl ?_
      refine J_CSx S_X10_arrears rfl rfl (by simp) (hv6) rfl ?_
      refine J_iald S_X10_arrears rfl (by assumption) (by omega) rfl (by omega) (by decide) ?_
      rw [g6]
      refine J_ist S_X10_arrears rfl rfl ?_
      refine J_ild S_X10_arrears rfl rfl ?_
      refine J_ald S_X10_arrears rfl rfl ?_
      refine J_getR S_X10_arrears rfl (o' := 314) (by assumption) (by omega) rfl ?_
      refine J_C S_X10_arrears rfl ?_
      refine J_iald S_X10_arrears rfl (by assumption) (by omega) (j := 0) rfl (by omega) (by decide) ?_
      rw [hen]
      refine J_cmp S_X10_arrears rfl (fun c21 => False.elim (nI_ge hj (by omega) c21)) (fun c21 => ?_)
      refine J_ald S_X10_arrears rfl rfl ?_
      refine J_ild S_X10_arrears rfl rfl ?_
      refine J_CVx S_X10_arrears rfl rfl (by assumption) (by omega) (by simp) (hbk) rfl ?_
      refine J_if S_X10_arrears rfl (fun c29 => ?_) (fun c29 => False.elim (absurd c29 (by decide)))
      refine J_ild S_X10_arrears rfl rfl ?_
      refine J_retI S_X10_arrears rfl ?_
      unfold arrM; rw [if_pos hz]; exact ⟨rfl, rfl⟩
    · refine J_C S_X10_arrears rfl ?_
      refine J_ist S_X10_arrears rfl rfl ?_
      refine J_ald S_X10_arrears rfl rfl ?_
      refine J_getR S_X10_arrears rfl (o' := 314) (by assumption) (by omega) rfl ?_
      refine J_ild S_X10_arrears rfl rfl ?_
      refine J_C S_X10_arrears rfl ?_
      refine J_CSx S_X10_arrears rfl rfl (by simp) (hv6) rfl ?_
      refine J_iald S_X10_arrears rfl (by assumption) (by omega) rfl (by omega) (by decide) ?_
      rw [g6]
      refine J_ist S_X10_arrears rfl rfl ?_
      refine J_ild S_X10_arrears rfl rfl ?_
      refine J_ald S_X10_arrears rfl rfl ?_
      refine J_getR S_X10_arrears rfl (o' := 314) (by assumption) (by omega) rfl ?_
      refine J_C S_X10_arrears rfl ?_
      refine J_iald S_X10_arrears rfl (by assumption) (by omega) (j := 0) rfl (by omega) (by decide) ?_
      rw [hen]
      refine J_cmp S_X10_arrears rfl (fun c21 => ?_) (fun c21 => False.elim (c21 (nI_le (by omega) (by omega))))
      refine J_ild S_X10_arrears rfl rfl ?_
      refine J_retI S_X10_arrears rfl ?_
      unfold arrM; rw [if_pos hz]; exact ⟨rfl, rfl⟩
  · refine J_C S_X10_arrears rfl ?_
    refine J_ist S_X10_arrears rfl rfl ?_
    refine J_ald S_X10_arrears rfl rfl ?_
    refine J_getR S_X10_arrears rfl (o' := 314) (by assumption) (by omega) rfl ?_
    refine J_ild S_X10_arrears rfl rfl ?_
    refine J_C S_X10_arrears rfl ?_
    refine J_CSx S_X10_arrears rfl rfl (by simp) (hv6) rfl ?_
    refine J_iald S_X10_arrears rfl (by assumption) (by omega) rfl (by omega) (by decide) ?_
    rw [g6]
    refine J_ist S_X10_arrears rfl rfl ?_
    exact key (en - tn (vk (I 314) k 6)) 0 (by omega) hz
theorem C_X10_arrear (hI : IV (I 314)) {k s : Nat} (hk : k < 8) (he : vk (I 314) k 4 = 1) (hs : s < 2 ^ 31) : mj_R D_X10_arrear [.inr (some 313), .inl (nI k), .inl (nI s)] (mj_w I) (mj_ex (some (.inl (nI (plc (I 314) k s)))) I) := by
  have m0 := s_313
  have m1 := s_314
  obtain ⟨en, hen, hel⟩ : ∃ d, I 314 0 = nI d ∧ d ≤ 200 := ⟨_, hI.1.1, hI.1.2⟩
  have het : tn (I 314 0) = en := by rw [hen, tn_nI (by omega)]
  obtain ⟨-, -, -, -, -, -, -, -, -, w5, w6, -, -⟩ := hI.wv hk he
  have g6 : I 314 (615 + 9 * k + 6) = nI (tn (vk (I 314) k 6)) := w6.1
  have w62 := w6.2
  rw [het] at w62
  have hv6 := C_X10_v (I := I) (k := k) (f := 6)
  refine mj_enter (by decide +kernel) (Nat.le_of_ble_eq_true rfl) ?_
  have key : ∀ (n m c : Nat), tn (vk (I 314) k 6) + m + n = en → c ≤ s → c ≤ m → plc (I 314) k s = pl (cq (I 314) k) (tn (vk (I 314) k 6) + m) n (s - c) → mj_J D_X10_arrear (mj_ex (some (.inl (nI (plc (I 314) k s)))) I) 15 [some (.inr (some 313)), some (.inl (nI k)), some (.inl (nI s)), some (.inl (nI c)), some (.inl (nI (tn (vk (I 314) k 6) + m)))] [] (mj_w I) (0, 0) := by
    intro n
    induction n with
    | zero =>
      intro m c hm hc hcm hp
      refine J_ild S_X10_arrear rfl rfl ?_
      refine J_ald S_X10_arrear rfl rfl ?_
      refine J_getR S_X10_arrear rfl (o' := 314) (by assumption) (by omega) rfl ?_
      refine J_C S_X10_arrear rfl ?_
      refine J_iald S_X10_arrear rfl (by assumption) (by omega) (j := 0) rfl (by omega) (by decide) ?_
      rw [hen]
      refine J_cmp S_X10_arrear rfl (fun c23 => ?_) (fun c23 => False.elim (c23 (nI_le (by omega) (by omega))))
      refine J_ald S_X10_arrear rfl rfl ?_
      refine J_getR S_X10_arrear rfl (o' := 314) (by assumption) (by omega) rfl ?_
      refine J_C S_X10_arrear rfl ?_
      refine J_iald S_X10_arrear rfl (by assumption) (by omega) (j := 0) rfl (by omega) (by decide) ?_
      refine J_retI S_X10_arrear rfl ?_
      rw [hp, hen, ← hm]; exact ⟨rfl, rfl⟩
    | succ n ih =>
      intro m c hm hc hcm hp
      have hj : tn (vk (I 314) k 6) + m < en := by omega
      have hcn := C_X10_concerned hI (j := tn (vk (I 314) k 6) + m) (by omega)
      have hh := C_X10_has (I := I) (m := msk (fun q => ex (I 314) q && cs (I 314) q (cl (I 314) (tn (vk (I 314) k 6) + m))) 8) (i := k) (Nat.lt_of_lt_of_le (msk_lt _ 8) (by decide)) (by omega)
      rw [msk_bit, decide_eq_true hk, Bool.true_and, ex_t he, Bool.true_and] at hh
      have hpe : cq (I 314) k (tn (vk (I 314) k 6) + m) = cs (I 314) k (cl (I 314) (tn (vk (I 314) k 6) + m)) := rfl
      rw [← hpe] at hh
      rw [pl] at hp
      cases hq : cq (I 314) k (tn (vk (I 314) k 6) + m) <;> rw [hq] at hh hp
      · refine J_ild S_X10_arrear rfl rfl ?_
        refine J_ald S_X10_arrear rfl rfl ?_
        refine J_getR S_X10_arrear rfl (o' := 314) (by assumption) (by omega) rfl ?_
        refine J_C S_X10_arrear rfl ?_
        refine J_iald S_X10_arrear rfl (by assumption) (by omega) (j := 0) rfl (by omega) (by decide) ?_
        rw [hen]
        refine J_cmp S_X10_arrear rfl (fun c23 => False.elim (nI_ge hj (by omega) c23)) (fun c23 => ?_)
        refine J_ald S_X10_arrear rfl rfl ?_
        refine J_ild S_X10_arrear rfl rfl ?_
        refine J_CVx S_X10_arrear rfl rfl (by assumption) (by omega) (by simp) (hcn) rfl ?_
        refine J_ild S_X10_arrear rfl rfl ?_
        refine J_CSx S_X10_arrear rfl rfl (by simp) (hh) rfl ?_
        refine J_if S_X10_arrear rfl (fun c36 => ?_) (fun c36 => False.elim (c36 rfl))
        refine J_inc S_X10_arrear rfl rfl rfl ?_
        refine J_goto S_X10_arrear rfl ?_
        rw [← nI_succ]
        exact ih (m + 1) c (by omega) hc (by omega) hp
      · rw [if_pos rfl] at hp
        by_cases hcs : s = c
        · rw [if_pos (by omega)] at hp
          refine J_ild S_X10_arrear rfl rfl ?_
          refine J_ald S_X10_arrear rfl rfl ?_
          refine J_getR S_X10_arrear rfl (o' := 314) (by assumption) (by omega) rfl ?_
          refine J_C S_X10_arrear rfl ?_
          refine J_iald S_X10_arrear rfl (by assumption) (by omega) (j := 0) rfl (by omega) (by decide) ?_
          rw [hen]
          refine J_cmp S_X10_arrear rfl (fun c23 => False.elim (nI_ge hj (by omega) c23)) (fun c23 => ?_)
          refine J_ald S_X10_arrear rfl rfl ?_
          refine J_ild S_X10_arrear rfl rfl ?_
          refine J_CVx S_X10_arrear rfl rfl (by assumption) (by omega) (by simp) (hcn) rfl ?_
          refine J_ild S_X10_arrear rfl rfl ?_
          refine J_CSx S_X10_arrear rfl rfl (by simp) (hh) rfl ?_
          refine J_if S_X10_arrear rfl (fun c36 => False.elim (absurd c36 (by decide))) (fun c36 => ?_)
          refine J_ild S_X10_arrear rfl rfl ?_
          refine J_ild S_X10_arrear rfl rfl ?_
          refine J_cmp S_X10_arrear rfl (fun c41 => False.elim (c41 (by rw [hcs]))) (fun c41 => ?_)
          refine J_ild S_X10_arrear rfl rfl ?_
          refine J_retI S_X10_arrear rfl ?_
          rw [hp]; exact ⟨rfl, rfl⟩
        · rw [if_neg (by omega)] at hp
          refine J_ild S_X10_arrear rfl rfl ?_
          refine J_ald S_X10_arrear rfl rfl ?_
          refine J_getR S_X10_arrear rfl (o' := 314) (by assumption) (by omega) rfl ?_
          refine J_C S_X10_arrear rfl ?_
          refine J_iald S_X10_arrear rfl (by assumption) (by omega) (j := 0) rfl (by omega) (by decide) ?_
          rw [hen]
          refine J_cmp S_X10_arrear rfl (fun c23 => False.elim (nI_ge hj (by omega) c23)) (fun c23 => ?_)
          refine J_ald S_X10_arrear rfl rfl ?_
          refine J_ild S_X10_arrear rfl rfl ?_
          refine J_CVx S_X10_arrear rfl rfl (by assumption) (by omega) (by simp) (hcn) rfl ?_
          refine J_ild S_X10_arrear rfl rfl ?_
          refine J_CSx S_X10_arrear rfl rfl (by simp) (hh) rfl ?_
          refine J_if S_X10_arrear rfl (fun c36 => False.elim (absurd c36 (by decide))) (fun c36 => ?_)
          refine J_ild S_X10_arrear rfl rfl ?_
          refine J_ild S_X10_arrear rfl rfl ?_
          refine J_cmp S_X10_arrear rfl (fun c41 => ?_) (fun c41 => False.elim (hcs ((nI_eq (by omega) hs).mp c41).symm))
          refine J_inc S_X10_arrear rfl rfl rfl ?_
          refine J_inc S_X10_arrear rfl rfl rfl ?_
          refine J_goto S_X10_arrear rfl ?_
          rw [← nI_succ, ← nI_succ]
          exact ih (m + 1) (c + 1) (by omega) (by omega) (by omega) (by rw [hp, Nat.sub_sub]; rfl)
  refine J_C S_X10_arrear rfl ?_
  refine J_ist S_X10_arrear rfl rfl ?_
  refine J_ald S_X10_arrear rfl rfl ?_
  refine J_getR S_X10_arrear rfl (o' := 314) (by assumption) (by omega) rfl ?_
  refine J_ild S_X10_arrear rfl rfl ?_
  refine J_C S_X10_arrear rfl ?_
  refine J_CSx S_X10_arrear rfl rfl (by simp) (hv6) rfl ?_
  refine J_iald S_X10_arrear rfl (by assumption) (by omega) rfl (by omega) (by decide) ?_
  rw [g6]
  refine J_ist S_X10_arrear rfl rfl ?_
  exact key (en - tn (vk (I 314) k 6)) 0 0 (by omega) (Nat.zero_le _) (Nat.zero_le _) (by unfold plc; rw [het]; rfl)
theorem C_X10_priceOf {k : Nat} (hk : k < 8) : mj_R D_X10_priceOf [.inr (some 313), .inl (nI k)] (mj_w I) (mj_ex (some (.inl (prc (I 314) k))) I) := by
  have m0 := s_313
  have m1 := s_314
  have hv := C_X10_v (I := I) (k := k) (f := 0)
  refine mj_enter (by decide +kernel) (Nat.le_of_ble_eq_true rfl) ?_
  refine J_ald S_X10_priceOf rfl rfl ?_
  refine J_getR S_X10_priceOf rfl (o' := 314) (by assumption) (by omega) rfl ?_
  refine J_ild S_X10_priceOf rfl rfl ?_
  refine J_C S_X10_priceOf rfl ?_
  refine J_CSx S_X10_priceOf rfl rfl (by simp) (hv) rfl ?_
  refine J_iald S_X10_priceOf rfl (by assumption) (by omega) rfl (by omega) (by decide) ?_
  refine J_C S_X10_priceOf rfl ?_
  refine J_cmp S_X10_priceOf rfl (fun c11 => ?_) (fun c11 => ?_)
  · refine J_ald S_X10_priceOf rfl rfl ?_
    refine J_getR S_X10_priceOf rfl (o' := 314) (by assumption) (by omega) rfl ?_
    refine J_C S_X10_priceOf rfl ?_
    refine J_iald S_X10_priceOf rfl (by assumption) (by omega) (j := 10) rfl (by omega) (by decide) ?_
    refine J_retI S_X10_priceOf rfl ?_
    rw [prc, if_neg (show ¬ 3 ≤ vk (I 314) k 0 from Int32.not_le.mpr c11)]; exact ⟨rfl, rfl⟩
  · refine J_C S_X10_priceOf rfl ?_
    refine J_ald S_X10_priceOf rfl rfl ?_
    refine J_getR S_X10_priceOf rfl (o' := 314) (by assumption) (by omega) rfl ?_
    refine J_C S_X10_priceOf rfl ?_
    refine J_iald S_X10_priceOf rfl (by assumption) (by omega) (j := 10) rfl (by omega) (by decide) ?_
    refine J_bin S_X10_priceOf rfl ?_
    refine J_goto S_X10_priceOf rfl ?_
    refine J_retI S_X10_priceOf rfl ?_
    rw [prc, if_pos (show 3 ≤ vk (I 314) k 0 from Int32.not_lt.mp c11)]; exact ⟨rfl, rfl⟩
theorem C_X10_need (hI : IV (I 314)) {k : Nat} (hk : k < 8) (he : vk (I 314) k 4 = 1) : mj_R D_X10_need [.inr (some 313), .inl (nI k)] (mj_w I) (mj_ex (some (.inl (need (I 314) k))) I) := by
  have m0 := s_313
  have m1 := s_314
  have hv := C_X10_v (I := I) (k := k) (f := 7)
  have ha := C_X10_arrears hI (hI.ex hk he)
  rw [arrM_ex he] at ha
  refine mj_enter (by decide +kernel) (Nat.le_of_ble_eq_true rfl) ?_
  refine J_ald S_X10_need rfl rfl ?_
  refine J_getR S_X10_need rfl (o' := 314) (by assumption) (by omega) rfl ?_
  refine J_ild S_X10_need rfl rfl ?_
  refine J_C S_X10_need rfl ?_
  refine J_CSx S_X10_need rfl rfl (by simp) (hv) rfl ?_
  refine J_iald S_X10_need rfl (by assumption) (by omega) rfl (by omega) (by decide) ?_
  refine J_ald S_X10_need rfl rfl ?_
  refine J_ild S_X10_need rfl rfl ?_
  refine J_CVx S_X10_need rfl rfl (by assumption) (by omega) (by simp) (C_X10_priceOf hk) rfl ?_
  refine J_ald S_X10_need rfl rfl ?_
  refine J_ild S_X10_need rfl rfl ?_
  refine J_CVx S_X10_need rfl rfl (by assumption) (by omega) (by simp) (ha) rfl ?_
  refine J_bin S_X10_need rfl ?_
  refine J_bin S_X10_need rfl ?_
  refine J_retI S_X10_need rfl ?_
  rw [need, Int32.mul_comm (nI (arr (I 314) k))]; exact ⟨rfl, rfl⟩
/-- the reference's scratch -/
def Ms (I I' : mj_I) : Prop := (∀ o, o ≠ 313 → o ≠ 317 → o ≠ 318 → o ≠ 319 → o ≠ 320 → I' o = I o) ∧ I' 313 2 = I 313 2 ∧ I' 313 4 = I 313 4
theorem ms_rf : Ms I I := ⟨fun _ _ _ _ _ _ => rfl, rfl, rfl⟩
theorem ms_tr {I' I'' : mj_I} (h : Ms I I') (h' : Ms I' I'') : Ms I I'' := ⟨fun o a b c d e => (h'.1 o a b c d e).trans (h.1 o a b c d e), h'.2.1.trans h.2.1, h'.2.2.trans h.2.2⟩
theorem ms_up {I' : mj_I} (h : Ms I I') {o k : Nat} {x : Int32} (ho : o = 317 ∨ o = 318 ∨ o = 319 ∨ o = 320) : Ms I (mj_up I' o k x) :=
  ⟨fun q a b c d e => by rw [mj_up_ne (by omega)]; exact h.1 q a b c d e, by rw [mj_up_ne (by omega)]; exact h.2.1, by rw [mj_up_ne (by omega)]; exact h.2.2⟩
theorem ms_u3 {I' : mj_I} (h : Ms I I') {k : Nat} {x : Int32} (hk : 9 ≤ k) : Ms I (mj_up I' 313 k x) :=
  ⟨fun q a b c d e => by rw [mj_up_ne a]; exact h.1 q a b c d e, by rw [mj_up_eq, up_n (by omega)]; exact h.2.1, by rw [mj_up_eq, up_n (by omega)]; exact h.2.2⟩
theorem C_X10_keysOf (hI : IV (I 314)) {k : Nat} (hk : k < tn (I 314 1)) : mj_R D_X10_keysOf [.inr (some 313), .inl (nI k)] (mj_w I) (mj_px (fun r I' => r = some (.inl (nI (ks (I 314) k))) ∧ Ms I I')) := by
  have m0 := s_313
  have m1 := s_314
  have m6 := s_319
  have hd := hI.2.1.2
  refine mj_enter (by decide +kernel) (Nat.le_of_ble_eq_true rfl) ?_
  have key : ∀ (n i : Nat) (I' : mj_I) (q3 q4 : Option mj_V), i + n = k + 1 → Ms I I' → (∀ a, a < i → I' 319 a = nI (ks (I 314) a)) → mj_J D_X10_keysOf (mj_px (fun r I' => r = some (.inl (nI (ks (I 314) k))) ∧ Ms I I')) 2 [some (.inr (some 313)), some (.inl (nI k)), some (.inl (nI i)), q3, q4] [] (mj_w I') (0, 0) := by
    intro n
    induction n with
    | zero =>
      intro i I' q3 q4 hi hM hA
      obtain rfl : i = k + 1 := by omega
      refine J_ild S_X10_keysOf rfl rfl ?_
      refine J_ild S_X10_keysOf rfl rfl ?_
      refine J_cmp S_X10_keysOf rfl (fun c4 => ?_) (fun c4 => False.elim (c4 (nI_lt (by omega) (by omega))))
      refine J_ald S_X10_keysOf rfl rfl ?_
      refine J_getR S_X10_keysOf rfl (o' := 319) (by assumption) (by omega) rfl ?_
      refine J_ild S_X10_keysOf rfl rfl ?_
      refine J_iald S_X10_keysOf rfl (by assumption) (by omega) rfl (by omega) (by decide) ?_
      refine J_retI S_X10_keysOf rfl ?_
      exact ⟨I', rfl, by rw [hA k (by omega)], hM⟩
    | succ n ih =>
      intro i I' q3 q4 hi hM hA
      have e314 : I' 314 = I 314 := hM.1 314 (by decide) (by decide) (by decide) (by decide) (by decide)
      obtain ⟨w4, w0, w1, -, w2, w3, wp, wr, wx, -⟩ := hI.2.2.2.2.2.1 i (by omega)
      have g2 : I' 314 (615 + 9 * i + 2) = nI (tn (vk (I 314) i 2)) := by rw [e314]; exact w2.1
      have g3 : I' 314 (615 + 9 * i + 3) = nI (tn (vk (I 314) i 3)) := by rw [e314]; exact w3.1
      have hv0 := C_X10_v (I := I') (k := i) (f := 0)
      have hv2 := C_X10_v (I := I') (k := i) (f := 2)
      have hv3 := C_X10_v (I := I') (k := i) (f := 3)
      have b2 := w2.2
      have b3 := w3.2
      have kseq : ks (I 314) i = (if vk (I 314) i 0 = 4 then tb_n 0 (ks_s (I 314)) i (tn (vk (I 314) i 2)) + tb_n 0 (ks_s (I 314)) i (tn (vk (I 314) i 3)) else tn (vk (I 314) i 3) + 1 - tn (vk (I 314) i 2)) := rfl
      have nxt : ∀ x : Int32, x = nI (ks (I 314) i) → ∀ q3 q4, mj_J D_X10_keysOf (mj_px (fun r I' => r = some (.inl (nI (ks (I 314) k))) ∧ Ms I I')) 2 [some (.inr (some 313)), some (.inl (nI k)), some (.inl (nI (i + 1))), q3, q4] [] (mj_w (mj_up I' 319 i x)) (0, 0) := by
        intro x hx q3 q4
        refine ih (i + 1) _ q3 q4 (by omega) (ms_up hM (by decide)) (fun a ha => ?_)
        rw [mj_up_eq]
        by_cases hai : a = i
        · subst hai; rw [up_s, hx]
        · rw [up_n hai]; exact hA a (by omega)
      by_cases h4 : vk (I 314) i 0 = 4
      · obtain ⟨ha, hb⟩ := wp h4
        have g0 : I' 314 (615 + 9 * i + 0) = 4 := by rw [e314]; exact h4
        rw [if_pos h4, tb_lt ha, tb_lt hb] at kseq
        refine J_ild S_X10_keysOf rfl rfl ?_
        refine J_ild S_X10_keysOf rfl rfl ?_
        refine J_cmp S_X10_keysOf rfl (fun c4 => False.elim (nI_nlt (by omega) (by omega) c4)) (fun c4 => ?_)
        refine J_ald S_X10_keysOf rfl rfl ?_
        refine J_getR S_X10_keysOf rfl (o' := 314) (by assumption) (by omega) rfl ?_
        refine J_ild S_X10_keysOf rfl rfl ?_
        refine J_C S_X10_keysOf rfl ?_
        refine J_CSx S_X10_keysOf rfl rfl (by simp) (hv2) rfl ?_
        refine J_iald S_X10_keysOf rfl (by assumption) (by omega) rfl (by omega) (by decide) ?_
        rw [g2]
        refine J_ist S_X10_keysOf rfl rfl ?_
        refine J_ald S_X10_keysOf rfl rfl ?_
        refine J_getR S_X10_keysOf rfl (o' := 314) (by assumption) (by omega) rfl ?_
        refine J_ild S_X10_keysOf rfl rfl ?_
        refine J_C S_X10_keysOf rfl ?_
        refine J_CSx S_X10_keysOf rfl rfl (by simp) (hv3) rfl ?_
        refine J_iald S_X10_keysOf rfl (by assumption) (by omega) rfl (by omega) (by decide) ?_
        rw [g3]
        refine J_ist S_X10_keysOf rfl rfl ?_
        refine J_ald S_X10_keysOf rfl rfl ?_
        refine J_getR S_X10_keysOf rfl (o' := 319) (by assumption) (by omega) rfl ?_
        refine J_ild S_X10_keysOf rfl rfl ?_
        refine J_ald S_X10_keysOf rfl rfl ?_
        refine J_getR S_X10_keysOf rfl (o' := 314) (by assumption) (by omega) rfl ?_
        refine J_ild S_X10_keysOf rfl rfl ?_
        refine J_C S_X10_keysOf rfl ?_
        refine J_CSx S_X10_keysOf rfl rfl (by simp) (hv0) rfl ?_
        refine J_iald S_X10_keysOf rfl (by assumption) (by omega) rfl (by omega) (by decide) ?_
        refine J_C S_X10_keysOf rfl ?_
        refine J_cmp S_X10_keysOf rfl (fun c46 => False.elim (c46 g0)) (fun c46 => ?_)
        refine J_ald S_X10_keysOf rfl rfl ?_
        refine J_getR S_X10_keysOf rfl (o' := 319) (by assumption) (by omega) rfl ?_
        refine J_ild S_X10_keysOf rfl rfl ?_
        refine J_iald S_X10_keysOf rfl (by assumption) (by omega) rfl (by omega) (by decide) ?_
        refine J_ald S_X10_keysOf rfl rfl ?_
        refine J_getR S_X10_keysOf rfl (o' := 319) (by assumption) (by omega) rfl ?_
        refine J_ild S_X10_keysOf rfl rfl ?_
        refine J_iald S_X10_keysOf rfl (by assumption) (by omega) rfl (by omega) (by decide) ?_
        refine J_bin S_X10_keysOf rfl ?_
        refine J_goto S_X10_keysOf rfl ?_
        refine J_iast S_X10_keysOf rfl (by assumption) (by omega) rfl (by omega) (by decide) ?_
        refine J_inc S_X10_keysOf rfl rfl rfl ?_
        refine J_goto S_X10_keysOf rfl ?_
        rw [← nI_succ]
        exact nxt _ (by rw [hA _ ha, hA _ hb, nI_add, kseq]; rfl) _ _
      · have g0 : ¬ I' 314 (615 + 9 * i + 0) = 4 := by rw [e314]; exact h4
        have hlt := wr h4
        rw [if_neg h4] at kseq
        refine J_ild S_X10_keysOf rfl rfl ?_
        refine J_ild S_X10_keysOf rfl rfl ?_
        refine J_cmp S_X10_keysOf rfl (fun c4 => False.elim (nI_nlt (by omega) (by omega) c4)) (fun c4 => ?_)
        refine J_ald S_X10_keysOf rfl rfl ?_
        refine J_getR S_X10_keysOf rfl (o' := 314) (by assumption) (by omega) rfl ?_
        refine J_ild S_X10_keysOf rfl rfl ?_
        refine J_C S_X10_keysOf rfl ?_
        refine J_CSx S_X10_keysOf rfl rfl (by simp) (hv2) rfl ?_
        refine J_iald S_X10_keysOf rfl (by assumption) (by omega) rfl (by omega) (by decide) ?_
        rw [g2]
        refine J_ist S_X10_keysOf rfl rfl ?_
        refine J_ald S_X10_keysOf rfl rfl ?_
        refine J_getR S_X10_keysOf rfl (o' := 314) (by assumption) (by omega) rfl ?_
        refine J_ild S_X10_keysOf rfl rfl ?_
        refine J_C S_X10_keysOf rfl ?_
        refine J_CSx S_X10_keysOf rfl rfl (by simp) (hv3) rfl ?_
        refine J_iald S_X10_keysOf rfl (by assumption) (by omega) rfl (by omega) (by decide) ?_
        rw [g3]
        refine J_ist S_X10_keysOf rfl rfl ?_
        refine J_ald S_X10_keysOf rfl rfl ?_
        refine J_getR S_X10_keysOf rfl (o' := 319) (by assumption) (by omega) rfl ?_
        refine J_ild S_X10_keysOf rfl rfl ?_
        refine J_ald S_X10_keysOf rfl rfl ?_
        refine J_getR S_X10_keysOf rfl (o' := 314) (by assumption) (by omega) rfl ?_
        refine J_ild S_X10_keysOf rfl rfl ?_
        refine J_C S_X10_keysOf rfl ?_
        refine J_CSx S_X10_keysOf rfl rfl (by simp) (hv0) rfl ?_
        refine J_iald S_X10_keysOf rfl (by assumption) (by omega) rfl (by omega) (by decide) ?_
        refine J_C S_X10_keysOf rfl ?_
        refine J_cmp S_X10_keysOf rfl (fun c46 => ?_) (fun c46 => False.elim (g0 c46))
        refine J_ild S_X10_keysOf rfl rfl ?_
        refine J_ild S_X10_keysOf rfl rfl ?_
        refine J_bin S_X10_keysOf rfl ?_
        refine J_C S_X10_keysOf rfl ?_
        refine J_bin S_X10_keysOf rfl ?_
        refine J_iast S_X10_keysOf rfl (by assumption) (by omega) rfl (by omega) (by decide) ?_
        refine J_inc S_X10_keysOf rfl rfl rfl ?_
        refine J_goto S_X10_keysOf rfl ?_
        rw [← nI_succ]
        exact nxt _ (by rw [pk_sub hlt, nI_1, kseq]; congr 1; omega) _ _
  refine J_C S_X10_keysOf rfl ?_
  refine J_ist S_X10_keysOf rfl rfl ?_
  exact key (k + 1) 0 I _ _ (by omega) ms_rf (fun a h => absurd h (Nat.not_lt_zero a))
end Md2
