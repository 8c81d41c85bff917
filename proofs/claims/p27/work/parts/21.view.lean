theorem C_X9_cellOf {I : mj_I} {x y : Int32} : mj_R D_X9_cellOf [.inl x, .inl y] (mj_w I) (mj_ex (some (.inl (x * 12 + y))) I) := by
  refine mj_enter (by decide +kernel) (Nat.le_of_ble_eq_true rfl) ?_
  refine J_ild S_X9_cellOf rfl rfl ?_
  refine J_C S_X9_cellOf rfl ?_
  refine J_bin S_X9_cellOf rfl ?_
  refine J_ild S_X9_cellOf rfl rfl ?_
  refine J_bin S_X9_cellOf rfl ?_
  refine J_retI S_X9_cellOf rfl ?_
  exact ⟨rfl, rfl⟩
def vl_amt (x : Int32) : Int32 := if x = -1 then 0 else x
def vl_prs (x : Int32) : Int32 := if x = -1 then 0 else 1
theorem C_X9_amount {I : mj_I} {x : Int32} : mj_R D_X9_amount [.inl x] (mj_w I) (mj_ex (some (.inl (vl_amt x))) I) := by
  refine mj_enter (by decide +kernel) (Nat.le_of_ble_eq_true rfl) ?_
  refine J_ild S_X9_amount rfl rfl ?_
  refine J_C S_X9_amount rfl ?_
  refine J_cmp S_X9_amount rfl (fun c2 => ?_) (fun c2 => ?_)
  · refine J_ild S_X9_amount rfl rfl ?_
    refine J_retI S_X9_amount rfl ?_
    rw [vl_amt, if_neg c2]; exact ⟨rfl, rfl⟩
  · refine J_C S_X9_amount rfl ?_
    refine J_goto S_X9_amount rfl ?_
    refine J_retI S_X9_amount rfl ?_
    rw [vl_amt, if_pos c2]; exact ⟨rfl, rfl⟩
theorem C_X9_presence {I : mj_I} {x : Int32} : mj_R D_X9_presence [.inl x] (mj_w I) (mj_ex (some (.inl (vl_prs x))) I) := by
  refine mj_enter (by decide +kernel) (Nat.le_of_ble_eq_true rfl) ?_
  refine J_ild S_X9_presence rfl rfl ?_
  refine J_C S_X9_presence rfl ?_
  refine J_cmp S_X9_presence rfl (fun c2 => ?_) (fun c2 => ?_)
  · refine J_C S_X9_presence rfl ?_
    refine J_retI S_X9_presence rfl ?_
    rw [vl_prs, if_neg c2]; exact ⟨rfl, rfl⟩
  · refine J_C S_X9_presence rfl ?_
    refine J_goto S_X9_presence rfl ?_
    refine J_retI S_X9_presence rfl ?_
    rw [vl_prs, if_pos c2]; exact ⟨rfl, rfl⟩
theorem C_X9_isCell {I : mj_I} {x y : Int32} : mj_R D_X9_isCell [.inl x, .inl y] (mj_w I) (mj_ex (some (.inl (if 0 ≤ x ∧ x < 2 ∧ 0 ≤ y ∧ y < 12 then 1 else 0))) I) := by
  refine mj_enter (by decide +kernel) (Nat.le_of_ble_eq_true rfl) ?_
  refine J_ild S_X9_isCell rfl rfl ?_
  refine J_if S_X9_isCell rfl (fun c1 => ?_) (fun c1 => ?_)
  · refine J_C S_X9_isCell rfl ?_
    refine J_retZ S_X9_isCell rfl (by decide) ?_
    rw [if_neg (fun h => Int32.not_lt.mpr h.1 c1)]; exact ⟨rfl, rfl⟩
  · refine J_ild S_X9_isCell rfl rfl ?_
    refine J_C S_X9_isCell rfl ?_
    refine J_cmp S_X9_isCell rfl (fun c6 => ?_) (fun c6 => ?_)
    · refine J_C S_X9_isCell rfl ?_
      refine J_retZ S_X9_isCell rfl (by decide) ?_
      rw [if_neg (fun h => Int32.not_lt.mpr c6 h.2.1)]; exact ⟨rfl, rfl⟩
    · refine J_ild S_X9_isCell rfl rfl ?_
      refine J_if S_X9_isCell rfl (fun c10 => ?_) (fun c10 => ?_)
      · refine J_C S_X9_isCell rfl ?_
        refine J_retZ S_X9_isCell rfl (by decide) ?_
        rw [if_neg (fun h => Int32.not_lt.mpr h.2.2.1 c10)]; exact ⟨rfl, rfl⟩
      · refine J_ild S_X9_isCell rfl rfl ?_
        refine J_C S_X9_isCell rfl ?_
        refine J_cmp S_X9_isCell rfl (fun c16 => ?_) (fun c16 => ?_)
        · refine J_C S_X9_isCell rfl ?_
          refine J_retZ S_X9_isCell rfl (by decide) ?_
          rw [if_neg (fun h => Int32.not_lt.mpr c16 h.2.2.2)]; exact ⟨rfl, rfl⟩
        · refine J_C S_X9_isCell rfl ?_
          refine J_goto S_X9_isCell rfl ?_
          refine J_retZ S_X9_isCell rfl (by decide) ?_
          rw [if_pos ⟨Int32.not_lt.mp c1, Int32.not_le.mp c6, Int32.not_lt.mp c10, Int32.not_le.mp c16⟩]; exact ⟨rfl, rfl⟩
section Vw
variable {I : mj_I} {o : Nat}
theorem C_X8_pose (hs : mj_sh o = (8, 11)) (ho : o < 313) {a b c e : Int32} : mj_R D_X8_pose [.inr (some o), .inl a, .inl b, .inl c, .inl e] (mj_w I) (mj_ex none (mj_up (mj_up (mj_up (mj_up I o 1 a) o 2 b) o 3 c) o 4 e)) := by
  refine mj_enter (by decide +kernel) (Nat.le_of_ble_eq_true rfl) ?_
  refine J_ald S_X8_pose rfl rfl ?_
  refine J_ild S_X8_pose rfl rfl ?_
  refine J_putI S_X8_pose rfl (by assumption) (by omega) ?_
  refine J_ald S_X8_pose rfl rfl ?_
  refine J_ild S_X8_pose rfl rfl ?_
  refine J_putI S_X8_pose rfl (by assumption) (by omega) ?_
  refine J_ald S_X8_pose rfl rfl ?_
  refine J_ild S_X8_pose rfl rfl ?_
  refine J_putI S_X8_pose rfl (by assumption) (by omega) ?_
  refine J_ald S_X8_pose rfl rfl ?_
  refine J_ild S_X8_pose rfl rfl ?_
  refine J_putI S_X8_pose rfl (by assumption) (by omega) ?_
  refine J_retV S_X8_pose rfl ?_
  exact ⟨rfl, rfl⟩
theorem C_X8_concern (hs : mj_sh o = (8, 11)) (ho : o < 313) {a b : Int32} : mj_R D_X8_concern [.inr (some o), .inl a, .inl b] (mj_w I) (mj_ex none (mj_up (mj_up I o 5 a) o 6 b)) := by
  refine mj_enter (by decide +kernel) (Nat.le_of_ble_eq_true rfl) ?_
  refine J_ald S_X8_concern rfl rfl ?_
  refine J_ild S_X8_concern rfl rfl ?_
  refine J_putI S_X8_concern rfl (by assumption) (by omega) ?_
  refine J_ald S_X8_concern rfl rfl ?_
  refine J_ild S_X8_concern rfl rfl ?_
  refine J_putI S_X8_concern rfl (by assumption) (by omega) ?_
  refine J_retV S_X8_concern rfl ?_
  exact ⟨rfl, rfl⟩
theorem C_X8_standAnew (hs : mj_sh o = (8, 11)) (ho : o < 313) {a : Int32} : mj_R D_X8_standAnew [.inr (some o), .inl a] (mj_w I) (mj_ex none (mj_up (mj_up (mj_up I o 7 0) o 8 a) o 9 0)) := by
  refine mj_enter (by decide +kernel) (Nat.le_of_ble_eq_true rfl) ?_
  refine J_ald S_X8_standAnew rfl rfl ?_
  refine J_C S_X8_standAnew rfl ?_
  refine J_putZ S_X8_standAnew rfl (by assumption) (by omega) (by decide) ?_
  refine J_ald S_X8_standAnew rfl rfl ?_
  refine J_ild S_X8_standAnew rfl rfl ?_
  refine J_putI S_X8_standAnew rfl (by assumption) (by omega) ?_
  refine J_ald S_X8_standAnew rfl rfl ?_
  refine J_C S_X8_standAnew rfl ?_
  refine J_putI S_X8_standAnew rfl (by assumption) (by omega) ?_
  refine J_retV S_X8_standAnew rfl ?_
  exact ⟨rfl, rfl⟩
theorem C_X8_begin (hs : mj_sh o = (8, 11)) (ho : o < 313) {a : Int32} : mj_R D_X8_begin [.inr (some o), .inl a] (mj_w I) (mj_ex none (mj_up (mj_up (mj_up (mj_up I o 0 1) o 7 0) o 8 a) o 9 0)) := by
  refine mj_enter (by decide +kernel) (Nat.le_of_ble_eq_true rfl) ?_
  refine J_ald S_X8_begin rfl rfl ?_
  refine J_C S_X8_begin rfl ?_
  refine J_putZ S_X8_begin rfl (by assumption) (by omega) (by decide) ?_
  refine J_ald S_X8_begin rfl rfl ?_
  refine J_ild S_X8_begin rfl rfl ?_
  refine J_CVx S_X8_begin rfl rfl (by assumption) (by omega) (by simp) (C_X8_standAnew hs ho) rfl ?_
  refine J_retV S_X8_begin rfl ?_
  exact ⟨rfl, rfl⟩
theorem C_X8_fail (hs : mj_sh o = (8, 11)) (ho : o < 313) : mj_R D_X8_fail [.inr (some o)] (mj_w I) (mj_ex none (mj_up (mj_up I o 7 1) o 9 0)) := by
  refine mj_enter (by decide +kernel) (Nat.le_of_ble_eq_true rfl) ?_
  refine J_ald S_X8_fail rfl rfl ?_
  refine J_C S_X8_fail rfl ?_
  refine J_putZ S_X8_fail rfl (by assumption) (by omega) (by decide) ?_
  refine J_ald S_X8_fail rfl rfl ?_
  refine J_C S_X8_fail rfl ?_
  refine J_putI S_X8_fail rfl (by assumption) (by omega) ?_
  refine J_retV S_X8_fail rfl ?_
  exact ⟨rfl, rfl⟩
theorem C_X8_hasTable (hs : mj_sh o = (8, 11)) (ho : o < 313) : mj_R D_X8_hasTable [.inr (some o)] (mj_w I) (mj_ex (some (.inl (if I o 1 = 0 ∨ I o 1 = 1 ∨ I o 1 = 2 then 1 else 0))) I) := by
  refine mj_enter (by decide +kernel) (Nat.le_of_ble_eq_true rfl) ?_
  refine J_ald S_X8_hasTable rfl rfl ?_
  refine J_getI S_X8_hasTable rfl (by assumption) (by omega) ?_
  refine J_if S_X8_hasTable rfl (fun c4 => ?_) (fun c4 => ?_)
  · refine J_C S_X8_hasTable rfl ?_
    refine J_goto S_X8_hasTable rfl ?_
    refine J_retZ S_X8_hasTable rfl (by decide) ?_
    rw [if_pos (Or.inl c4)]; exact ⟨rfl, rfl⟩
  · refine J_ald S_X8_hasTable rfl rfl ?_
    refine J_getI S_X8_hasTable rfl (by assumption) (by omega) ?_
    refine J_C S_X8_hasTable rfl ?_
    refine J_cmp S_X8_hasTable rfl (fun c12 => ?_) (fun c12 => ?_)
    · refine J_C S_X8_hasTable rfl ?_
      refine J_goto S_X8_hasTable rfl ?_
      refine J_retZ S_X8_hasTable rfl (by decide) ?_
      rw [if_pos (Or.inr (Or.inl c12))]; exact ⟨rfl, rfl⟩
    · refine J_ald S_X8_hasTable rfl rfl ?_
      refine J_getI S_X8_hasTable rfl (by assumption) (by omega) ?_
      refine J_C S_X8_hasTable rfl ?_
      refine J_cmp S_X8_hasTable rfl (fun c20 => ?_) (fun c20 => ?_)
      · refine J_C S_X8_hasTable rfl ?_
        refine J_retZ S_X8_hasTable rfl (by decide) ?_
        rw [if_neg (by simp only [c4, c12, c20, or_self, not_false_eq_true])]; exact ⟨rfl, rfl⟩
      · refine J_C S_X8_hasTable rfl ?_
        refine J_goto S_X8_hasTable rfl ?_
        refine J_retZ S_X8_hasTable rfl (by decide) ?_
        rw [if_pos (Or.inr (Or.inr c20))]; exact ⟨rfl, rfl⟩
theorem C_X8_isMadeOf (hs : mj_sh o = (8, 11)) (ho : o < 313) {x : Int32} : mj_R D_X8_isMadeOf [.inr (some o), .inl x] (mj_w I) (mj_ex (some (.inl (if I o 1 = 4 ∧ (I o 3 = x ∨ I o 4 = x) then 1 else 0))) I) := by
  refine mj_enter (by decide +kernel) (Nat.le_of_ble_eq_true rfl) ?_
  refine J_ald S_X8_isMadeOf rfl rfl ?_
  refine J_getI S_X8_isMadeOf rfl (by assumption) (by omega) ?_
  refine J_C S_X8_isMadeOf rfl ?_
  refine J_cmp S_X8_isMadeOf rfl (fun c5 => ?_) (fun c5 => ?_)
  · refine J_C S_X8_isMadeOf rfl ?_
    refine J_retZ S_X8_isMadeOf rfl (by decide) ?_
    rw [if_neg (fun h => c5 h.1)]; exact ⟨rfl, rfl⟩
  · refine J_ald S_X8_isMadeOf rfl rfl ?_
    refine J_getI S_X8_isMadeOf rfl (by assumption) (by omega) ?_
    refine J_ild S_X8_isMadeOf rfl rfl ?_
    refine J_cmp S_X8_isMadeOf rfl (fun c13 => ?_) (fun c13 => ?_)
    · refine J_C S_X8_isMadeOf rfl ?_
      refine J_goto S_X8_isMadeOf rfl ?_
      refine J_retZ S_X8_isMadeOf rfl (by decide) ?_
      rw [if_pos ⟨c5, Or.inl c13⟩]; exact ⟨rfl, rfl⟩
    · refine J_ald S_X8_isMadeOf rfl rfl ?_
      refine J_getI S_X8_isMadeOf rfl (by assumption) (by omega) ?_
      refine J_ild S_X8_isMadeOf rfl rfl ?_
      refine J_cmp S_X8_isMadeOf rfl (fun c21 => ?_) (fun c21 => ?_)
      · refine J_C S_X8_isMadeOf rfl ?_
        refine J_retZ S_X8_isMadeOf rfl (by decide) ?_
        rw [if_neg (fun h => h.2.elim c13 c21)]; exact ⟨rfl, rfl⟩
      · refine J_C S_X8_isMadeOf rfl ?_
        refine J_goto S_X8_isMadeOf rfl ?_
        refine J_retZ S_X8_isMadeOf rfl (by decide) ?_
        rw [if_pos ⟨c5, Or.inr c21⟩]; exact ⟨rfl, rfl⟩
theorem C_X8_isConcernedBy (hs : mj_sh o = (8, 11)) (ho : o < 313) {c : Nat} (hc : c < 24) : mj_R D_X8_isConcernedBy [.inr (some o), .inl (nI c)] (mj_w I) (mj_ex (some (.inl (if I o 5 &&& (1 <<< (nI c &&& 31)) = 0 then 0 else 1))) I) := by
  refine mj_enter (by decide +kernel) (Nat.le_of_ble_eq_true rfl) ?_
  refine J_ild S_X8_isConcernedBy rfl rfl ?_
  refine J_if S_X8_isConcernedBy rfl (fun c1 => False.elim (nI_pos (by omega) c1)) (fun c1 => ?_)
  refine J_ild S_X8_isConcernedBy rfl rfl ?_
  refine J_C S_X8_isConcernedBy rfl ?_
  refine J_cmp S_X8_isConcernedBy rfl (fun c7 => False.elim (nI_ge hc (by omega) c7)) (fun c7 => ?_)
  refine J_ald S_X8_isConcernedBy rfl rfl ?_
  refine J_getI S_X8_isConcernedBy rfl (by assumption) (by omega) ?_
  refine J_C S_X8_isConcernedBy rfl ?_
  refine J_ild S_X8_isConcernedBy rfl rfl ?_
  refine J_bin S_X8_isConcernedBy rfl ?_
  refine J_bin S_X8_isConcernedBy rfl ?_
  refine J_if S_X8_isConcernedBy rfl (fun c18 => ?_) (fun c18 => ?_)
  · refine J_C S_X8_isConcernedBy rfl ?_
    refine J_retZ S_X8_isConcernedBy rfl (by decide) ?_
    rw [if_pos c18]; exact ⟨rfl, rfl⟩
  · refine J_C S_X8_isConcernedBy rfl ?_
    refine J_goto S_X8_isConcernedBy rfl ?_
    refine J_retZ S_X8_isConcernedBy rfl (by decide) ?_
    rw [if_neg c18]; exact ⟨rfl, rfl⟩
def vw_rng (f l : Int32) : Int32 := (1 <<< ((l - f + 1) &&& 31) - 1) <<< (f &&& 31)
theorem C_X8_rangeCells (hs : mj_sh o = (8, 11)) (ho : o < 313) : mj_R D_X8_rangeCells [.inr (some o)] (mj_w I) (mj_ex (some (.inl (if I o 1 = 3 then vw_rng (I o 3) (I o 4) <<< ((0 * 12 + 0 : Int32) &&& 31) ||| vw_rng (I o 3) (I o 4) <<< ((1 * 12 + 0 : Int32) &&& 31) else vw_rng (I o 3) (I o 4) <<< ((I o 2 * 12 + 0) &&& 31)))) I) := by
  refine mj_enter (by decide +kernel) (Nat.le_of_ble_eq_true rfl) ?_
  refine J_C S_X8_rangeCells rfl ?_
  refine J_ald S_X8_rangeCells rfl rfl ?_
  refine J_getI S_X8_rangeCells rfl (by assumption) (by omega) ?_
  refine J_ald S_X8_rangeCells rfl rfl ?_
  refine J_getI S_X8_rangeCells rfl (by assumption) (by omega) ?_
  refine J_bin S_X8_rangeCells rfl ?_
  refine J_C S_X8_rangeCells rfl ?_
  refine J_bin S_X8_rangeCells rfl ?_
  refine J_bin S_X8_rangeCells rfl ?_
  refine J_C S_X8_rangeCells rfl ?_
  refine J_bin S_X8_rangeCells rfl ?_
  refine J_ald S_X8_rangeCells rfl rfl ?_
  refine J_getI S_X8_rangeCells rfl (by assumption) (by omega) ?_
  refine J_bin S_X8_rangeCells rfl ?_
  refine J_ist S_X8_rangeCells rfl rfl ?_
  refine J_ald S_X8_rangeCells rfl rfl ?_
  refine J_getI S_X8_rangeCells rfl (by assumption) (by omega) ?_
  refine J_C S_X8_rangeCells rfl ?_
  refine J_cmp S_X8_rangeCells rfl (fun c26 => ?_) (fun c26 => ?_)
  · refine J_ild S_X8_rangeCells rfl rfl ?_
    refine J_ald S_X8_rangeCells rfl rfl ?_
    refine J_getI S_X8_rangeCells rfl (by assumption) (by omega) ?_
    refine J_C S_X8_rangeCells rfl ?_
    refine J_CSx S_X8_rangeCells rfl rfl (by simp) (C_X9_cellOf) rfl ?_
    refine J_bin S_X8_rangeCells rfl ?_
    refine J_retI S_X8_rangeCells rfl ?_
    rw [if_neg c26]; exact ⟨rfl, rfl⟩
  · refine J_ild S_X8_rangeCells rfl rfl ?_
    refine J_C S_X8_rangeCells rfl ?_
    refine J_C S_X8_rangeCells rfl ?_
    refine J_CSx S_X8_rangeCells rfl rfl (by simp) (C_X9_cellOf) rfl ?_
    refine J_bin S_X8_rangeCells rfl ?_
    refine J_ild S_X8_rangeCells rfl rfl ?_
    refine J_C S_X8_rangeCells rfl ?_
    refine J_C S_X8_rangeCells rfl ?_
    refine J_CSx S_X8_rangeCells rfl rfl (by simp) (C_X9_cellOf) rfl ?_
    refine J_bin S_X8_rangeCells rfl ?_
    refine J_bin S_X8_rangeCells rfl ?_
    refine J_retI S_X8_rangeCells rfl ?_
    rw [if_pos c26]; exact ⟨rfl, rfl⟩
theorem C_X8_rangeKeys (hs : mj_sh o = (8, 11)) (ho : o < 313) : mj_R D_X8_rangeKeys [.inr (some o)] (mj_w I) (mj_ex (some (.inl (I o 4 - I o 3 + 1))) I) := by
  refine mj_enter (by decide +kernel) (Nat.le_of_ble_eq_true rfl) ?_
  refine J_ald S_X8_rangeKeys rfl rfl ?_
  refine J_getI S_X8_rangeKeys rfl (by assumption) (by omega) ?_
  refine J_ald S_X8_rangeKeys rfl rfl ?_
  refine J_getI S_X8_rangeKeys rfl (by assumption) (by omega) ?_
  refine J_bin S_X8_rangeKeys rfl ?_
  refine J_C S_X8_rangeKeys rfl ?_
  refine J_bin S_X8_rangeKeys rfl ?_
  refine J_retI S_X8_rangeKeys rfl ?_
  exact ⟨rfl, rfl⟩
def vw_cp (I : mj_I) (o q : Nat) : mj_I :=
  mj_up (mj_up (mj_up (mj_up (mj_up (mj_up (mj_up (mj_up (mj_up (mj_up (mj_up I o 0 (I q 0)) o 1 (I q 1)) o 2 (I q 2)) o 3 (I q 3)) o 4 (I q 4)) o 5 (I q 5)) o 6 (I q 6)) o 7 (I q 7)) o 8 (I q 8)) o 9 (I q 9)) o 10 (I q 10)
theorem C_X8_copyFrom {q : Nat} (hs : mj_sh o = (8, 11)) (ho : o < 313) (hsq : mj_sh q = (8, 11)) (hq : q < 313) (hne : q ≠ o) (h0 : I q 0 = 0 ∨ I q 0 = 1) (h7 : I q 7 = 0 ∨ I q 7 = 1) : mj_R D_X8_copyFrom [.inr (some o), .inr (some q)] (mj_w I) (mj_ex none (vw_cp I o q)) := by
  refine mj_enter (by decide +kernel) (Nat.le_of_ble_eq_true rfl) ?_
  refine J_ald S_X8_copyFrom rfl rfl ?_
  refine J_ald S_X8_copyFrom rfl rfl ?_
  refine J_getI S_X8_copyFrom rfl (by assumption) (by omega) ?_
  refine J_putZ S_X8_copyFrom rfl (by assumption) (by omega) h0 ?_
  refine J_ald S_X8_copyFrom rfl rfl ?_
  refine J_ald S_X8_copyFrom rfl rfl ?_
  refine J_getI S_X8_copyFrom rfl (by assumption) (by omega) ?_
  refine J_ald S_X8_copyFrom rfl rfl ?_
  refine J_getI S_X8_copyFrom rfl (by assumption) (by omega) ?_
  refine J_ald S_X8_copyFrom rfl rfl ?_
  refine J_getI S_X8_copyFrom rfl (by assumption) (by omega) ?_
  refine J_ald S_X8_copyFrom rfl rfl ?_
  refine J_getI S_X8_copyFrom rfl (by assumption) (by omega) ?_
  simp only [mj_up_ne hne]
  refine J_CVx S_X8_copyFrom rfl rfl (by assumption) (by omega) (by simp) (C_X8_pose hs ho) rfl ?_
  refine J_ald S_X8_copyFrom rfl rfl ?_
  refine J_ald S_X8_copyFrom rfl rfl ?_
  refine J_getI S_X8_copyFrom rfl (by assumption) (by omega) ?_
  refine J_ald S_X8_copyFrom rfl rfl ?_
  refine J_getI S_X8_copyFrom rfl (by assumption) (by omega) ?_
  simp only [mj_up_ne hne]
  refine J_CVx S_X8_copyFrom rfl rfl (by assumption) (by omega) (by simp) (C_X8_concern hs ho) rfl ?_
  refine J_ald S_X8_copyFrom rfl rfl ?_
  refine J_ald S_X8_copyFrom rfl rfl ?_
  refine J_getI S_X8_copyFrom rfl (by assumption) (by omega) ?_
  simp only [mj_up_ne hne]
  refine J_putZ S_X8_copyFrom rfl (by assumption) (by omega) h7 ?_
  refine J_ald S_X8_copyFrom rfl rfl ?_
  refine J_ald S_X8_copyFrom rfl rfl ?_
  refine J_getI S_X8_copyFrom rfl (by assumption) (by omega) ?_
  simp only [mj_up_ne hne]
  refine J_putI S_X8_copyFrom rfl (by assumption) (by omega) ?_
  refine J_ald S_X8_copyFrom rfl rfl ?_
  refine J_ald S_X8_copyFrom rfl rfl ?_
  refine J_getI S_X8_copyFrom rfl (by assumption) (by omega) ?_
  simp only [mj_up_ne hne]
  refine J_putI S_X8_copyFrom rfl (by assumption) (by omega) ?_
  refine J_ald S_X8_copyFrom rfl rfl ?_
  refine J_ald S_X8_copyFrom rfl rfl ?_
  refine J_getI S_X8_copyFrom rfl (by assumption) (by omega) ?_
  simp only [mj_up_ne hne]
  refine J_putI S_X8_copyFrom rfl (by assumption) (by omega) ?_
  refine J_retV S_X8_copyFrom rfl ?_
  exact ⟨rfl, rfl⟩
end Vw
section Tb
variable {I : mj_I} {o : Nat}
/-- o the tables' object, o + 1 its row -/
theorem C_X6_at (hs : mj_sh o = (6, 1)) (hs1 : mj_sh (o + 1) = (11, 24)) (ho : o + 1 < 313) {c : Nat} (hc : c < 24) : mj_R D_X6_at [.inr (some o), .inl (nI c)] (mj_w I) (mj_ex (some (.inl (I (o + 1) c))) I) := by
  refine mj_enter (by decide +kernel) (Nat.le_of_ble_eq_true rfl) ?_
  refine J_ild S_X6_at rfl rfl ?_
  refine J_if S_X6_at rfl (fun c1 => False.elim (nI_pos (by omega) c1)) (fun c1 => ?_)
  refine J_ild S_X6_at rfl rfl ?_
  refine J_ald S_X6_at rfl rfl ?_
  refine J_getR S_X6_at rfl (by assumption) (by omega) rfl ?_
  refine J_len S_X6_at rfl (by assumption) (by omega) (by decide) ?_
  refine J_cmp S_X6_at rfl (fun c10 => False.elim (nI_ge hc (by omega) c10)) (fun c10 => ?_)
  refine J_ald S_X6_at rfl rfl ?_
  refine J_getR S_X6_at rfl (by assumption) (by omega) rfl ?_
  refine J_ild S_X6_at rfl rfl ?_
  refine J_iald S_X6_at rfl (by assumption) (by omega) rfl (by omega) (by decide) ?_
  refine J_goto S_X6_at rfl ?_
  refine J_retI S_X6_at rfl ?_
  exact ⟨rfl, rfl⟩
theorem C_X6_assign (hs : mj_sh o = (6, 1)) (hs1 : mj_sh (o + 1) = (11, 24)) (ho : o + 1 < 313) {c : Nat} {x : Int32} (hc : c < 24) : mj_R D_X6_assign [.inr (some o), .inl (nI c), .inl x] (mj_w I) (mj_ex none (mj_up I (o + 1) c x)) := by
  refine mj_enter (by decide +kernel) (Nat.le_of_ble_eq_true rfl) ?_
  refine J_ild S_X6_assign rfl rfl ?_
  refine J_if S_X6_assign rfl (fun c1 => False.elim (nI_pos (by omega) c1)) (fun c1 => ?_)
  refine J_ild S_X6_assign rfl rfl ?_
  refine J_ald S_X6_assign rfl rfl ?_
  refine J_getR S_X6_assign rfl (by assumption) (by omega) rfl ?_
  refine J_len S_X6_assign rfl (by assumption) (by omega) (by decide) ?_
  refine J_cmp S_X6_assign rfl (fun c10 => False.elim (nI_ge hc (by omega) c10)) (fun c10 => ?_)
  refine J_ald S_X6_assign rfl rfl ?_
  refine J_getR S_X6_assign rfl (by assumption) (by omega) rfl ?_
  refine J_ild S_X6_assign rfl rfl ?_
  refine J_ild S_X6_assign rfl rfl ?_
  refine J_iast S_X6_assign rfl (by assumption) (by omega) rfl (by omega) (by decide) ?_
  refine J_retV S_X6_assign rfl ?_
  exact ⟨rfl, rfl⟩
def tb_e (I : mj_I) (o : Nat) : Nat → mj_I
  | 0 => I
  | n + 1 => mj_up (tb_e I o n) o n (-1)
theorem C_X6_empty (hs : mj_sh o = (6, 1)) (hs1 : mj_sh (o + 1) = (11, 24)) (ho : o + 1 < 313) : mj_R D_X6_empty [.inr (some o)] (mj_w I) (mj_ex none (tb_e I (o + 1) 24)) := by
  refine mj_enter (by decide +kernel) (Nat.le_of_ble_eq_true rfl) ?_
  refine J_C S_X6_empty rfl ?_
  refine J_ist S_X6_empty rfl rfl ?_
  show mj_J _ _ 2 [some (.inr (some o)), some (.inl (nI 0))] [] (mj_w (tb_e I (o + 1) 0)) (0, 0)
  have key : ∀ (n k : Nat), n + k = 24 → mj_J D_X6_empty (mj_ex none (tb_e I (o + 1) 24)) 2 [some (.inr (some o)), some (.inl (nI k))] [] (mj_w (tb_e I (o + 1) k)) (0, 0) := by
    intro n
    induction n with
    | zero =>
      intro k hk
      obtain rfl : k = 24 := by omega
      refine J_ild S_X6_empty rfl rfl ?_
      refine J_ald S_X6_empty rfl rfl ?_
      refine J_getR S_X6_empty rfl (by assumption) (by omega) rfl ?_
      refine J_len S_X6_empty rfl (by assumption) (by omega) (by decide) ?_
      refine J_cmp S_X6_empty rfl (fun c8 => ?_) (fun c8 => False.elim (c8 (nI_le (by omega) (by omega))))
      refine J_retV S_X6_empty rfl ?_
      exact ⟨rfl, rfl⟩
    | succ n ih =>
      intro k hk
      refine J_ild S_X6_empty rfl rfl ?_
      refine J_ald S_X6_empty rfl rfl ?_
      refine J_getR S_X6_empty rfl (by assumption) (by omega) rfl ?_
      refine J_len S_X6_empty rfl (by assumption) (by omega) (by decide) ?_
      refine J_cmp S_X6_empty rfl (fun c8 => False.elim (nI_ge (by omega) (by omega) c8)) (fun c8 => ?_)
      refine J_ald S_X6_empty rfl rfl ?_
      refine J_getR S_X6_empty rfl (by assumption) (by omega) rfl ?_
      refine J_ild S_X6_empty rfl rfl ?_
      refine J_C S_X6_empty rfl ?_
      refine J_iast S_X6_empty rfl (by assumption) (by omega) rfl (by omega) (by decide) ?_
      refine J_inc S_X6_empty rfl rfl rfl ?_
      refine J_goto S_X6_empty rfl ?_
      rw [← nI_succ]; exact ih (k + 1) (by omega)
  exact key 24 0 rfl
end Tb
