def ex (v : mv) (k : Nat) : Bool := decide (vk v k 4 = 1)
theorem ex_t {v : mv} {k : Nat} (h : vk v k 4 = 1) : ex v k = true := decide_eq_true h
theorem ex_f {v : mv} {k : Nat} (h : vk v k 4 = 0) : ex v k = false := decide_eq_false (by rw [h]; decide)
def sm (p : Nat → Bool) (f : Nat → Int32) : Nat → Int32
  | 0 => 0
  | n + 1 => if p n = true then sm p f n + f n else sm p f n
theorem cl_eq {v : mv} {j : Nat} (h1 : rg (v (15 + 3 * j)) 1) (h2 : rg (v (16 + 3 * j)) 11) : v (15 + 3 * j) * 12 + v (16 + 3 * j) = nI (cl v j) := by
  unfold cl
  rw [h1.1, h2.1, tn_nI (by have := h1.2; omega), tn_nI (by have := h2.2; omega), ← nI_add, ← pk_mul, Int32.mul_comm]
  rfl
theorem isV_nI {v : mv} {k : Nat} (hk : k < 8) : isV v (nI k) = ex v k := by
  unfold isV ex
  rw [tn_nI (by omega), decide_eq_true (show (0 : Int32) ≤ nI k from nI_pos' (by omega)), decide_eq_true (show nI k < 8 from nI_lt (b := 8) hk (by decide))]
  rfl
section Bk
variable {I : mj_I} {b : Nat} {v : mv}
theorem C_X0_setting (hB : mj_isB b) {i : Nat} (hi : i < 6) : mj_R D_X0_setting [.inr (some b), .inl (nI i)] (mj_w I) (mj_ex (some (.inl (I (b + 5) i))) I) := by
  obtain ⟨h0, h1, h2, h3, h4, h5, h6, hv, hb⟩ := hB
  refine mj_enter (by decide +kernel) (Nat.le_of_ble_eq_true rfl) ?_
  refine J_ild S_X0_setting rfl rfl ?_
  refine J_if S_X0_setting rfl (fun c1 => False.elim (nI_pos (by omega) c1)) (fun c1 => ?_)
  refine J_ild S_X0_setting rfl rfl ?_
  refine J_ald S_X0_setting rfl rfl ?_
  refine J_getR S_X0_setting rfl (by assumption) (by omega) rfl ?_
  refine J_len S_X0_setting rfl (by assumption) (by omega) (by decide) ?_
  refine J_cmp S_X0_setting rfl (fun c10 => False.elim (nI_ge hi (by omega) c10)) (fun c10 => ?_)
  refine J_ald S_X0_setting rfl rfl ?_
  refine J_getR S_X0_setting rfl (by assumption) (by omega) rfl ?_
  refine J_ild S_X0_setting rfl rfl ?_
  refine J_iald S_X0_setting rfl (by assumption) (by omega) rfl (by omega) (by decide) ?_
  refine J_goto S_X0_setting rfl ?_
  refine J_retI S_X0_setting rfl ?_
  exact ⟨rfl, rfl⟩
theorem C_X0_changeSetting (hB : mj_isB b) {i : Nat} {x : Int32} (hi : i < 6) : mj_R D_X0_changeSetting [.inr (some b), .inl (nI i), .inl x] (mj_w I) (mj_ex none (mj_up I (b + 5) i x)) := by
  obtain ⟨h0, h1, h2, h3, h4, h5, h6, hv, hb⟩ := hB
  refine mj_enter (by decide +kernel) (Nat.le_of_ble_eq_true rfl) ?_
  refine J_ild S_X0_changeSetting rfl rfl ?_
  refine J_if S_X0_changeSetting rfl (fun c1 => False.elim (nI_pos (by omega) c1)) (fun c1 => ?_)
  refine J_ild S_X0_changeSetting rfl rfl ?_
  refine J_ald S_X0_changeSetting rfl rfl ?_
  refine J_getR S_X0_changeSetting rfl (by assumption) (by omega) rfl ?_
  refine J_len S_X0_changeSetting rfl (by assumption) (by omega) (by decide) ?_
  refine J_cmp S_X0_changeSetting rfl (fun c10 => False.elim (nI_ge hi (by omega) c10)) (fun c10 => ?_)
  refine J_ald S_X0_changeSetting rfl rfl ?_
  refine J_getR S_X0_changeSetting rfl (by assumption) (by omega) rfl ?_
  refine J_ild S_X0_changeSetting rfl rfl ?_
  refine J_ild S_X0_changeSetting rfl rfl ?_
  refine J_iast S_X0_changeSetting rfl (by assumption) (by omega) rfl (by omega) (by decide) ?_
  refine J_retV S_X0_changeSetting rfl ?_
  exact ⟨rfl, rfl⟩
theorem C_X0_find (hB : mj_isB b) (hR : ∀ k, k < 8 → I (b + 7 + k) 0 = vk v k 4) (hI : ∀ k, k < 8 → vk v k 4 = 0 ∨ vk v k 4 = 1) {x : Int32} : mj_R D_X0_find [.inr (some b), .inl x] (mj_w I) (mj_ex (some (.inr (if isV v x = true then some (b + 7 + tn x) else none))) I) := by
  obtain ⟨h0, h1, h2, h3, h4, h5, h6, hv, hb⟩ := hB
  refine mj_enter (by decide +kernel) (Nat.le_of_ble_eq_true rfl) ?_
  rcases pk_ix x (n := 8) (by decide) with hx | hx | ⟨j, hj, rfl⟩
  · have e : isV v x = false := by unfold isV; rw [decide_eq_false (Int32.not_le.mpr hx)]; rfl
    rw [e]
    refine J_ild S_X0_find rfl rfl ?_
    refine J_if S_X0_find rfl (fun c1 => ?_) (fun c1 => False.elim (c1 hx))
    refine J_null S_X0_find rfl ?_
    refine J_retA S_X0_find rfl ?_
    exact ⟨rfl, rfl⟩
  · have e : isV v x = false := by unfold isV; rw [decide_eq_false (show ¬ x < 8 from Int32.not_lt.mpr hx)]; simp
    rw [e]
    by_cases h0 : x < 0
    · refine J_ild S_X0_find rfl rfl ?_
      refine J_if S_X0_find rfl (fun c1 => ?_) (fun c1 => False.elim (c1 h0))
      refine J_null S_X0_find rfl ?_
      refine J_retA S_X0_find rfl ?_
      exact ⟨rfl, rfl⟩
    · refine J_ild S_X0_find rfl rfl ?_
      refine J_if S_X0_find rfl (fun c1 => False.elim (h0 c1)) (fun c1 => ?_)
      refine J_ild S_X0_find rfl rfl ?_
      refine J_ald S_X0_find rfl rfl ?_
      refine J_getR S_X0_find rfl (by assumption) (by omega) rfl ?_
      refine J_len S_X0_find rfl (by assumption) (by omega) (by decide) ?_
      refine J_cmp S_X0_find rfl (fun c10 => False.elim (Int32.not_lt.mpr hx c10)) (fun c10 => ?_)
      refine J_null S_X0_find rfl ?_
      refine J_retA S_X0_find rfl ?_
      exact ⟨rfl, rfl⟩
  · rw [isV_nI hj, tn_nI (by omega)]
    have hvj := hv j hj
    refine J_ild S_X0_find rfl rfl ?_
    refine J_if S_X0_find rfl (fun c1 => False.elim (nI_pos (by omega) c1)) (fun c1 => ?_)
    refine J_ild S_X0_find rfl rfl ?_
    refine J_ald S_X0_find rfl rfl ?_
    refine J_getR S_X0_find rfl (by assumption) (by omega) rfl ?_
    refine J_len S_X0_find rfl (by assumption) (by omega) (by decide) ?_
    refine J_cmp S_X0_find rfl (fun c10 => ?_) (fun c10 => False.elim (c10 (nI_lt hj (by omega))))
    refine J_ald S_X0_find rfl rfl ?_
    refine J_getR S_X0_find rfl (by assumption) (by omega) rfl ?_
    refine J_ild S_X0_find rfl rfl ?_
    refine J_aald S_X0_find rfl (by assumption) (by omega) rfl (by omega) (by decide) rfl ?_
    refine J_ast S_X0_find rfl rfl ?_
    refine J_ald S_X0_find rfl rfl ?_
    refine J_nuS S_X0_find rfl ?_
    refine J_ald S_X0_find rfl rfl ?_
    refine J_getI S_X0_find rfl (by assumption) (by omega) ?_
    refine J_if S_X0_find rfl (fun c30 => ?_) (fun c30 => ?_)
    · refine J_null S_X0_find rfl ?_
      refine J_retA S_X0_find rfl ?_
      rw [ex_f (by rw [← hR j hj]; exact c30)]; exact ⟨rfl, rfl⟩
    · refine J_ald S_X0_find rfl rfl ?_
      refine J_goto S_X0_find rfl ?_
      refine J_retA S_X0_find rfl ?_
      rw [ex_t ((hI j hj).resolve_left (by rw [← hR j hj]; exact c30))]; exact ⟨rfl, rfl⟩
theorem C_X0_find_y (hB : mj_isB b) (hR : RB I b v) (hI : IV v) {k : Nat} (hk : k < 8) (he : vk v k 4 = 1) : mj_R D_X0_find [.inr (some b), .inl (nI k)] (mj_w I) (mj_ex (some (.inr (some (b + 7 + k)))) I) := by
  have h := C_X0_find (x := nI k) hB (fun k hk => (hR.2.2.2.2 k hk).1) (fun k hk => hI.b01 hk)
  rw [isV_nI hk, ex_t he, tn_nI (by omega)] at h
  exact h
theorem C_X0_find_n (hB : mj_isB b) (hR : RB I b v) (hI : IV v) {k : Nat} (hk : k < 8) (he : vk v k 4 = 0) : mj_R D_X0_find [.inr (some b), .inl (nI k)] (mj_w I) (mj_ex (some (.inr none)) I) := by
  have h := C_X0_find (x := nI k) hB (fun k hk => (hR.2.2.2.2 k hk).1) (fun k hk => hI.b01 hk)
  rw [isV_nI hk, ex_f he] at h
  exact h
theorem C_con (hB : mj_isB b) (hR : RB I b v) {k c : Nat} (hk : k < 8) (he : vk v k 4 = 1) (hc : c < 24) : mj_R D_X8_isConcernedBy [.inr (some (b + 7 + k)), .inl (nI c)] (mj_w I) (mj_ex (some (.inl (bi (cs v k c)))) I) := by
  have h := C_X8_isConcernedBy (I := I) (hB.2.2.2.2.2.2.2.1 k hk) (by have := hB.2.2.2.2.2.2.2.2; omega) hc
  rw [((hR.2.2.2.2 k hk).2.2 he).2.2.2.2.1] at h
  have e := msk_and (cs v k) 24 c hc (by decide)
  unfold cm at h
  cases hcs : cs v k c
  · rw [if_pos (e.mpr hcs)] at h
    exact h
  · rw [if_neg (fun z => by rw [e.mp z] at hcs; cases hcs)] at h
    exact h
theorem C_X0_arrears (hB : mj_isB b) (hR : RB I b v) (hI : IV v) {k : Nat} (hk : k < 8) (he : vk v k 4 = 1) : mj_R D_X0_arrears [.inr (some b), .inr (some (b + 7 + k))] (mj_w I) (mj_ex (some (.inl (nI (arr v k)))) I) := by
  have hB' := hB
  have hw := hI.wv hk he
  obtain ⟨h0, h1, h2, h3, h4, h5, h6, hv, hb⟩ := hB
  have hvk := hv k hk
  obtain ⟨r1, r2, r3, r4, r5, r6, r7, r8, r9, r10⟩ := (hR.2.2.2.2 k hk).2.2 he
  obtain ⟨-, -, -, -, -, -, -, -, -, w5, w6, -, -⟩ := hw
  have hen := hI.1
  refine mj_enter (by decide +kernel) (Nat.le_of_ble_eq_true rfl) ?_
  have key : ∀ (n m : Nat), tn (vk v k 6) + m + n = tn (v 0) → vk v k 5 = 0 → mj_J D_X0_arrears (mj_ex (some (.inl (nI (arr v k)))) I) 16 [some (.inr (some b)), some (.inr (some (b + 7 + k))), some (.inl (nI (cnt (fun j => cs v k (cl v j)) (tn (vk v k 6)) m))), some (.inl (nI (tn (vk v k 6) + m)))] [] (mj_w I) (0, 0) := by
    intro n
    induction n with
    | zero =>
      intro m hm hz
      refine J_ild S_X0_arrears rfl rfl ?_
      refine J_ald S_X0_arrears rfl rfl ?_
      refine J_getR S_X0_arrears rfl (by assumption) (by omega) rfl ?_
      refine J_getI S_X0_arrears rfl (by assumption) (by omega) ?_
      rw [hR.1, hen.1]
      refine J_cmp S_X0_arrears rfl (fun c24 => ?_) (fun c24 => False.elim (c24 (nI_le (by omega) (by have := hen.2; omega))))
      refine J_ild S_X0_arrears rfl rfl ?_
      refine J_retI S_X0_arrears rfl ?_
      rw [arr, if_neg (by rw [hz]; decide), show tn (v 0) - tn (vk v k 6) = m by omega]; exact ⟨rfl, rfl⟩
    | succ n ih =>
      intro m hm hz
      have hj : tn (vk v k 6) + m < tn (v 0) := by omega
      have hc := hI.cl_lt hj
      have hce := (hR.2.2.2.1 _ hj).1
      refine J_ild S_X0_arrears rfl rfl ?_
      refine J_ald S_X0_arrears rfl rfl ?_
      refine J_getR S_X0_arrears rfl (by assumption) (by omega) rfl ?_
      refine J_getI S_X0_arrears rfl (by assumption) (by omega) ?_
      rw [hR.1, hen.1]
      refine J_cmp S_X0_arrears rfl (fun c24 => False.elim (nI_ge hj (by have := hen.2; omega) c24)) (fun c24 => ?_)
      refine J_ald S_X0_arrears rfl rfl ?_
      refine J_ald S_X0_arrears rfl rfl ?_
      refine J_getR S_X0_arrears rfl (by assumption) (by omega) rfl ?_
      refine J_ild S_X0_arrears rfl rfl ?_
      refine J_CVx S_X0_arrears rfl rfl (by assumption) (by omega) (by simp) (C_X2_cell hB' (by have := hen.2; omega)) rfl ?_
      rw [hce]
      refine J_CVx S_X0_arrears rfl rfl (by assumption) (by omega) (by simp) (C_con hB' hR hk he hc) rfl ?_
      refine J_if S_X0_arrears rfl (fun c39 => ?_) (fun c39 => ?_)
      · refine J_inc S_X0_arrears rfl rfl rfl ?_
        refine J_goto S_X0_arrears rfl ?_
        rw [← nI_succ, show cnt (fun j => cs v k (cl v j)) (tn (vk v k 6)) m = cnt (fun j => cs v k (cl v j)) (tn (vk v k 6)) (m + 1) by rw [cnt, if_neg (by rw [(bi_0 _).mp c39]; decide)]; rfl]
        exact ih (m + 1) (by omega) hz
      · refine J_inc S_X0_arrears rfl rfl rfl ?_
        refine J_inc S_X0_arrears rfl rfl rfl ?_
        refine J_goto S_X0_arrears rfl ?_
        rw [← nI_succ, ← nI_succ, show cnt (fun j => cs v k (cl v j)) (tn (vk v k 6)) m + 1 = cnt (fun j => cs v k (cl v j)) (tn (vk v k 6)) (m + 1) by rw [cnt, if_pos ((bi_n0 _).mp c39)]]
        exact ih (m + 1) (by omega) hz
  refine J_ald S_X0_arrears rfl rfl ?_
  refine J_getI S_X0_arrears rfl (by assumption) (by omega) ?_
  refine J_if S_X0_arrears rfl (fun c4 => ?_) (fun c4 => ?_)
  · refine J_C S_X0_arrears rfl ?_
    refine J_ist S_X0_arrears rfl rfl ?_
    refine J_ald S_X0_arrears rfl rfl ?_
    refine J_getI S_X0_arrears rfl (by assumption) (by omega) ?_
    refine J_ist S_X0_arrears rfl rfl ?_
    rw [r8, w6.1]
    exact key (tn (v 0) - tn (vk v k 6)) 0 (by have := w6.2; omega) (by rw [← r7]; exact c4)
  · refine J_C S_X0_arrears rfl ?_
    refine J_retI S_X0_arrears rfl ?_
    rw [arr, if_pos ((rg_01 w5).resolve_left (by rw [← r7]; exact c4))]; exact ⟨rfl, rfl⟩
end Bk
